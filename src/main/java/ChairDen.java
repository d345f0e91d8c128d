import java.util.Arrays;

/**
 * A den of chairs and blankets on a floor of 64 cells. A text tells the things, the cloths and the
 * holds by which the cloths hang; calls ask what hangs where, what gives, tips and slides, what
 * rooms there are, and what could be. What each call answers stands in shared/DOC.md.
 */
public final class ChairDen {
    public static final int NONE = -1, UNKNOWN = -1001, OUTSIDE = -1002, NOT = -1003, FULL = -1004;

    private static final int WIDE = 8;
    private static final int CELLS = 64;
    private static final int MOST_THINGS = 8;
    private static final int MOST_CLOTHS = 3;
    private static final int MOST_HOLDS = 12;
    private static final int MOST_WANTS = 4;
    private static final int MOST_IMAGES = 2;
    private static final int MOST_TEXT = 500;
    private static final int MOST_WANT_TEXT = 60;
    private static final int MOST_ROUNDS = 60;
    private static final int MOST_BUMP = 999;
    /** Rows of kinds, and orders, are tried for so many HOLDS alone. */
    private static final int MOST_TRIED = 7;

    private static final int LAID = 0;
    private static final int PEG = 1;
    private static final int BOOK = 2;
    private static final int TIED = 3;
    private static final int TRAPPED = 4;

    private static final int GAVE = 0;
    private static final int TIPPED = 1;
    private static final int SLID = 2;

    private final Script script = new Script();
    private final Settler settler = new Settler();
    private final Tries tries = new Tries();
    private final Tower pile = new Tower();
    private final Hanging hanging = new Hanging();
    private final Log latest = new Log();
    private final State now = new State();
    private final State[] images = {new State(), new State()};
    private final boolean[] kept = new boolean[MOST_IMAGES];
    private final int[] keptSeeds = new int[MOST_IMAGES];
    private final Want[] wants = {new Want(), new Want(), new Want(), new Want()};
    private final Want wantRead = new Want();
    private Plan plan = new Plan();
    private Plan planRead = new Plan();
    private int wantsTold = 0;
    private int faultPlace = NONE;
    private int drawn = 0;

    /** Nothing is on THE FLOOR. */
    public ChairDen() {
    }

    // ---- the den.

    public int feed(int n, long bytes) {
        if (n < 1 || n > 8) {
            return OUTSIDE;
        }
        if (script.size + n > MOST_TEXT) {
            return FULL;
        }
        for (int i = n - 1; i >= 0; i--) {
            script.append((int) (bytes >>> (8 * i)) & 255);
        }
        return script.size;
    }

    public int den() {
        script.begin();
        planRead.readFrom(script);
        script.size = 0;
        faultPlace = script.faultAt;
        if (script.fault != 0) {
            return -10 - script.fault;
        }
        Plan old = plan;
        plan = planRead;
        planRead = old;
        now.copyFrom(plan.start);
        latest.size = 0;
        for (int i = 0; i < MOST_IMAGES; i++) {
            kept[i] = false;
        }
        settler.draws.forget();
        tries.forgetMost();
        return plan.holds;
    }

    public int want() {
        if (script.size > MOST_WANT_TEXT) {
            return NOT;
        }
        if (wantsTold >= MOST_WANTS) {
            return FULL;
        }
        script.begin();
        wantRead.readFrom(script);
        script.size = 0;
        faultPlace = script.faultAt;
        if (script.fault != 0) {
            return -10 - script.fault;
        }
        wants[wantsTold].copyFrom(wantRead);
        wantsTold++;
        return wantsTold - 1;
    }

    public int fault() {
        return faultPlace;
    }

    public int count(int what) {
        switch (what) {
            case 0: return plan.things;
            case 1: return plan.cloths;
            case 2: return plan.holds;
            case 3: return Integer.bitCount(now.holding);
            case 4: return wantsTold;
            case 5: return latest.size;
            case 6: return script.size;
            default: return OUTSIDE;
        }
    }

    public int thing(int t, int what) {
        if (!isThing(t)) {
            return UNKNOWN;
        }
        if (what >= 6 && what <= 8) {
            settler.gather(plan, now, settler.draws.slotOf(plan, now));
        }
        switch (what) {
            case 0: return now.at[t];
            case 1: return plan.tall[t];
            case 2: return plan.weight[t];
            case 3: return plan.rub[t];
            case 4: return plan.base[t];
            case 5: return now.isLying(t) ? 1 : 0;
            case 6: return settler.pullRows[t];
            case 7: return settler.pullPlaces[t];
            case 8: return settler.sizeOf(t);
            default: return OUTSIDE;
        }
    }

    public int hold(int k, int what) {
        if (!isHold(k)) {
            return UNKNOWN;
        }
        switch (what) {
            case 0: return plan.clothOf[k];
            case 1: return plan.thingOf[k];
            case 2: return now.how[k];
            case 3: return now.book[k];
            case 4: return now.isHolding(k) ? 1 : 0;
            case 5: return settler.draws.drawOf(settler.draws.slotOf(plan, now), k);
            case 6: return settler.draws.loadOf(settler.draws.slotOf(plan, now), k);
            default: return OUTSIDE;
        }
    }

    public int hangs(int cloth, int c) {
        if (!isCloth(cloth) || !isCell(c)) {
            return UNKNOWN;
        }
        hanging.lay(plan, now);
        return hanging.tops[cloth * CELLS + c];
    }

    public int leans(int cloth, int c) {
        if (!isCloth(cloth) || !isCell(c)) {
            return UNKNOWN;
        }
        if (!plan.isUnder(cloth, c)) {
            return NOT;
        }
        hanging.lay(plan, now);
        return hanging.leanings[cloth * CELLS + c];
    }

    public int height(int c) {
        if (!isCell(c)) {
            return UNKNOWN;
        }
        hanging.lay(plan, now);
        return hanging.highest(c);
    }

    // ---- to rest.

    public int gives(int k, int b) {
        if (!isHold(k)) {
            return UNKNOWN;
        }
        if (!isBump(b)) {
            return OUTSIDE;
        }
        if (!now.isHolding(k)) {
            return NOT;
        }
        int slot = settler.draws.slotOf(plan, now);
        return settler.letsGo(plan, now, slot, k, b) ? 1 : 0;
    }

    public int rest(int t, int b) {
        if (t != NONE && !isThing(t)) {
            return UNKNOWN;
        }
        if (t != NONE && !isBump(b)) {
            return OUTSIDE;
        }
        settler.settle(plan, now, t, t == NONE ? 0 : b, latest);
        return latest.size;
    }

    public int event(int i, int what) {
        if (what != 0 && what != 1) {
            return OUTSIDE;
        }
        if (i < 0 || i >= latest.size) {
            return NONE;
        }
        return what == 0 ? latest.what[i] : latest.which[i];
    }

    public int stands() {
        return settler.isQuiet(plan, now, NONE, 0) ? 1 : 0;
    }

    public int bears(int t, int b) {
        if (!isThing(t)) {
            return UNKNOWN;
        }
        if (!isBump(b)) {
            return OUTSIDE;
        }
        return settler.isQuiet(plan, now, t, b) ? 1 : 0;
    }

    public int weakest(int t) {
        if (!isThing(t)) {
            return UNKNOWN;
        }
        if (settler.isQuiet(plan, now, t, MOST_BUMP)) {
            return NONE;
        }
        // What a bump does, each stronger one does too: so the greatest that is borne is found by halves.
        int borne = NONE;
        for (int step = 512; step > 0; step /= 2) {
            if (borne + step <= MOST_BUMP && settler.isQuiet(plan, now, t, borne + step)) {
                borne += step;
            }
        }
        return borne + 1;
    }

    // ---- rooms.

    public int room(int h, int what) {
        if (!isHigh(h) || what < 0 || what > 3) {
            return OUTSIDE;
        }
        long found = greatestRoom(h);
        switch (what) {
            case 0: return Long.bitCount(found);
            case 1: return Rooms.leastCell(found);
            case 2: return Rooms.doorsOf(found, doorways());
            default: return darkOf(found);
        }
    }

    public long cells(int h) {
        return isHigh(h) ? greatestRoom(h) : OUTSIDE;
    }

    public int rooms(int h) {
        if (!isHigh(h)) {
            return OUTSIDE;
        }
        hanging.lay(plan, now);
        return Rooms.howMany(hanging.roomy(plan, now, h));
    }

    public int light(int c) {
        return isCell(c) ? Rooms.lightOf(plan, 1L << c) : UNKNOWN;
    }

    // ---- what could be.

    public int most(int h, int p, int q, int k) {
        if (k != NONE && !isHold(k)) {
            return UNKNOWN;
        }
        if (!isHigh(h) || p < 0 || p > MOST_HOLDS || q < 0 || q > MOST_HOLDS) {
            return OUTSIDE;
        }
        if (plan.holds > MOST_TRIED) {
            return NOT;
        }
        tries.findMost(settler, plan, now, h, p, q);
        return k == NONE ? tries.mostCells : Tries.kindIn(tries.mostRow, k, plan.holds);
    }

    public int fewest() {
        return plan.holds > MOST_TRIED ? NOT : tries.fewestPegs(settler, plan, now);
    }

    public int order(int k, boolean down, int j) {
        if (k < 0 || k > 4) {
            return OUTSIDE;
        }
        if (Integer.bitCount(now.holding) > MOST_TRIED) {
            return NOT;
        }
        if (!tries.findOrder(settler, plan, now, k, down)) {
            return NONE;
        }
        if (j == NONE) {
            return 1;
        }
        return j < 0 || j >= tries.members ? NONE : tries.orderRow[j];
    }

    public int heap(int set) {
        return (set >>> plan.holds) != 0 ? UNKNOWN : tries.firstGone(settler, plan, now, set);
    }

    public int change(int t, int b) {
        if (!isThing(t)) {
            return UNKNOWN;
        }
        return isBump(b) ? tries.leastTied(settler, plan, now, t, b) : OUTSIDE;
    }

    public int fasten(int k, int how, int n) {
        if (!isHold(k)) {
            return UNKNOWN;
        }
        if (how < LAID || how > TRAPPED || (how == BOOK && (n < 1 || n > 99))) {
            return OUTSIDE;
        }
        if (!plan.reaches(now, k)) {
            return NOT;
        }
        int before = now.how[k];
        now.how[k] = how;
        now.book[k] = how == BOOK ? n : 0;
        now.holding |= 1 << k;
        return before;
    }

    public int tower(int j) {
        pile.build(plan);
        if (j == NONE) {
            return pile.tallest;
        }
        return j < 0 || j >= pile.size ? NONE : pile.row[j];
    }

    public int met(int w) {
        if (w < 0 || w >= wantsTold) {
            return UNKNOWN;
        }
        Want asked = wants[w];
        long found = greatestRoom(asked.high);
        if (Long.bitCount(found) < asked.cellsWanted || darkOf(found) > asked.dark) {
            return 0;
        }
        if (asked.door && Rooms.doorsOf(found, doorways()) == 0) {
            return 0;
        }
        return asked.standing && stands() == 0 ? 0 : 1;
    }

    // ---- bumps by draws, images.

    public int seed(int v) {
        if (v < 0) {
            return OUTSIDE;
        }
        int before = drawn;
        drawn = v;
        return before;
    }

    public int bumps(int n, int b) {
        if (n < 1 || n > 20 || !isBump(b)) {
            return OUTSIDE;
        }
        if (plan.things == 0) {
            return NOT;
        }
        int all = 0;
        for (int i = 0; i < n; i++) {
            int t = drawOf(plan.things);
            int strength = drawOf(b + 1);
            settler.settle(plan, now, t, strength, latest);
            all += latest.size;
        }
        return all;
    }

    public int keep(int i) {
        if (i < 0 || i >= MOST_IMAGES) {
            return UNKNOWN;
        }
        images[i].copyFrom(now);
        keptSeeds[i] = drawn;
        kept[i] = true;
        return 1;
    }

    public int goBack(int i) {
        if (i < 0 || i >= MOST_IMAGES) {
            return UNKNOWN;
        }
        if (!kept[i]) {
            return NOT;
        }
        now.copyFrom(images[i]);
        drawn = keptSeeds[i];
        return 1;
    }

    private boolean isCell(int c) {
        return c >= 0 && c < CELLS;
    }

    private boolean isThing(int t) {
        return t >= 0 && t < plan.things;
    }

    private boolean isCloth(int k) {
        return k >= 0 && k < plan.cloths;
    }

    private boolean isHold(int k) {
        return k >= 0 && k < plan.holds;
    }

    private static boolean isBump(int b) {
        return b >= 0 && b <= MOST_BUMP;
    }

    private static boolean isHigh(int h) {
        return h >= 1 && h <= 20;
    }

    private long greatestRoom(int h) {
        hanging.lay(plan, now);
        return Rooms.greatest(hanging.roomy(plan, now, h));
    }

    /** CELLS by which one comes in: without a THING, under no CLOTH. */
    private long doorways() {
        return ~plan.covered() & ~now.taken(plan.things);
    }

    private int darkOf(long found) {
        return found == 0 ? NONE : Rooms.lightOf(plan, found);
    }

    /** A DRAW of n, which is 1 or more. */
    private int drawOf(int n) {
        drawn = (int) ((drawn * 1103515245L + 12345L) & 0x7fffffffL);
        return n < 1 ? 0 : drawn / 65536 % n;
    }

    /** THE TEXT, and the reading of its words, NUMBERS and signs up to the first FAULT. */
    private static final class Script {
        static final int END = 0;
        static final int WORD = 1;
        static final int FIGURES = 2;
        static final int SIGN = 3;

        final int[] bytes = new int[MOST_TEXT];
        int size = 0;
        int at = 0;
        int kind = END;
        int start = 0;
        int value = 0;
        /** Where the NUMBER began that number() read latest. */
        int numberStart = 0;
        int fault = 0;
        int faultAt = NONE;

        void append(int sign) {
            if (size < bytes.length) {
                bytes[size] = sign;
                size++;
            }
        }

        void begin() {
            at = 0;
            fault = 0;
            faultAt = NONE;
            step();
        }

        /** Only the first FAULT counts: what is read goes forward alone. */
        void blame(int number, int place) {
            if (fault == 0) {
                fault = number;
                faultAt = place;
            }
        }

        boolean isGoingOn() {
            return fault == 0 && kind != END;
        }

        void step() {
            while (at < size && bytes[at] == ' ') {
                at++;
            }
            start = at;
            value = 0;
            if (at >= size) {
                kind = END;
            } else if (isLetter(bytes[at])) {
                kind = WORD;
                while (at < size && isLetter(bytes[at])) {
                    at++;
                }
            } else if (isFigure(bytes[at])) {
                kind = FIGURES;
                while (at < size && isFigure(bytes[at])) {
                    value = Math.min(999, value * 10 + bytes[at] - '0');
                    at++;
                }
            } else {
                kind = SIGN;
                at++;
            }
        }

        boolean isWord(String word) {
            if (kind != WORD || at - start != word.length()) {
                return false;
            }
            for (int i = 0; i < word.length(); i++) {
                if (bytes[start + i] != word.charAt(i)) {
                    return false;
                }
            }
            return true;
        }

        /** Whether the word stands here; it is behind then. */
        boolean takes(String word) {
            if (fault != 0 || !isWord(word)) {
                return false;
            }
            step();
            return true;
        }

        /** A NUMBER from low to high; low, if it is none. */
        int number(int low, int high) {
            if (fault != 0) {
                return low;
            }
            numberStart = start;
            if (kind != FIGURES) {
                blame(1, start);
                return low;
            }
            if (at - start > 2 || value < low || value > high) {
                blame(2, start);
                return low;
            }
            int told = value;
            step();
            return told;
        }

        void semicolon() {
            if (fault != 0) {
                return;
            }
            if (kind != SIGN || bytes[start] != ';') {
                blame(1, start);
                return;
            }
            step();
        }

        private static boolean isLetter(int sign) {
            return sign >= 'a' && sign <= 'z';
        }

        private static boolean isFigure(int sign) {
            return sign >= '0' && sign <= '9';
        }
    }

    /** What a text told of a den: it stays so, whatever gives and slides. */
    private static final class Plan {
        int things = 0;
        int cloths = 0;
        int holds = 0;
        /** The SET of THINGS on which nothing may be held. */
        int barred = 0;
        final int[] tall = new int[MOST_THINGS];
        final int[] weight = new int[MOST_THINGS];
        final int[] rub = new int[MOST_THINGS];
        final int[] base = new int[MOST_THINGS];
        final int[] corner = new int[MOST_CLOTHS];
        final int[] down = new int[MOST_CLOTHS];
        final int[] along = new int[MOST_CLOTHS];
        final int[] heavy = new int[MOST_CLOTHS];
        final int[] sag = new int[MOST_CLOTHS];
        final long[] under = new long[MOST_CLOTHS];
        final int[] clothOf = new int[MOST_HOLDS];
        final int[] thingOf = new int[MOST_HOLDS];
        int bright = 60;
        int fade = 10;
        boolean lightTold = false;
        final State start = new State();

        /** Reads the clauses of THE DEN. With a FAULT what the plan says then is of no use. */
        void readFrom(Script in) {
            clear();
            for (int i = 0; i < MOST_TEXT && in.isGoingOn(); i++) {
                int first = in.start;
                if (in.takes("thing")) {
                    readThing(in, first);
                } else if (in.takes("cloth")) {
                    readCloth(in, first);
                } else if (in.takes("hold")) {
                    readHold(in, first);
                } else if (in.takes("light")) {
                    readLight(in, first);
                } else if (in.takes("bar")) {
                    readBar(in);
                } else {
                    in.blame(1, first);
                }
                in.semicolon();
            }
        }

        private void clear() {
            things = 0;
            cloths = 0;
            holds = 0;
            barred = 0;
            bright = 60;
            fade = 10;
            lightTold = false;
            start.lying = 0;
            start.holding = 0;
        }

        private void readThing(Script in, int first) {
            int t = things;
            if (t >= MOST_THINGS) {
                in.blame(4, first);
                return;
            }
            int cell = in.number(0, CELLS - 1);
            if ((start.taken(t) >>> cell & 1) != 0) {
                in.blame(3, in.numberStart);
            }
            start.at[t] = cell;
            tall[t] = in.number(1, 20);
            weight[t] = in.number(1, 99);
            rub[t] = in.number(0, 99);
            base[t] = in.number(1, 9);
            things++;
        }

        private void readCloth(Script in, int first) {
            int k = cloths;
            if (k >= MOST_CLOTHS) {
                in.blame(4, first);
                return;
            }
            corner[k] = in.number(0, CELLS - 1);
            down[k] = in.number(1, WIDE);
            along[k] = in.number(1, WIDE);
            if (corner[k] / WIDE + down[k] > WIDE || corner[k] % WIDE + along[k] > WIDE) {
                in.blame(5, in.numberStart);
                return;
            }
            spread(k);
            heavy[k] = in.number(1, 9);
            sag[k] = in.number(1, 9);
            cloths++;
        }

        private void spread(int cloth) {
            under[cloth] = 0;
            long line = ((1L << along[cloth]) - 1) << corner[cloth];
            for (int r = 0; r < down[cloth]; r++) {
                under[cloth] |= line << (WIDE * r);
            }
        }

        private void readHold(Script in, int first) {
            int k = holds;
            if (k >= MOST_HOLDS) {
                in.blame(4, first);
                return;
            }
            int cloth = in.number(0, cloths - 1);
            int thing = in.number(0, things - 1);
            if (in.fault != 0) {
                return;
            }
            clothOf[k] = cloth;
            thingOf[k] = thing;
            if ((barred >>> thing & 1) != 0 || isPaired(cloth, thing) || !reaches(start, k)) {
                in.blame(3, in.numberStart);
                return;
            }
            int kind = readKind(in);
            start.fastenSo(k, kind, kind == BOOK ? in.number(1, 99) : 0);
            start.holding |= 1 << k;
            holds++;
        }

        private static int readKind(Script in) {
            if (in.takes("laid")) {
                return LAID;
            }
            if (in.takes("peg")) {
                return PEG;
            }
            if (in.takes("book")) {
                return BOOK;
            }
            if (in.takes("tied")) {
                return TIED;
            }
            if (!in.takes("trapped")) {
                in.blame(1, in.start);
            }
            return TRAPPED;
        }

        private void readLight(Script in, int first) {
            if (lightTold) {
                in.blame(3, first);
            }
            lightTold = true;
            bright = in.number(0, 99);
            fade = in.number(1, 20);
        }

        private void readBar(Script in) {
            int thing = in.number(0, things - 1);
            if (in.fault == 0 && isHeldOn(thing)) {
                in.blame(3, in.numberStart);
            }
            barred |= 1 << thing;
        }

        boolean isUnder(int cloth, int cell) {
            return (under[cloth] >>> cell & 1) != 0;
        }

        long covered() {
            long all = 0;
            for (int k = 0; k < cloths; k++) {
                all |= under[k];
            }
            return all;
        }

        /** Whether the THING of a HOLD lies under its CLOTH. */
        boolean reaches(State state, int hold) {
            return isUnder(clothOf[hold], state.at[thingOf[hold]]);
        }

        boolean isPaired(int cloth, int thing) {
            for (int k = 0; k < holds; k++) {
                if (clothOf[k] == cloth && thingOf[k] == thing) {
                    return true;
                }
            }
            return false;
        }

        boolean isHeldOn(int thing) {
            for (int k = 0; k < holds; k++) {
                if (thingOf[k] == thing) {
                    return true;
                }
            }
            return false;
        }
    }

    /** What REST, bumps and hands may change: an IMAGE of it is a copy. */
    private static final class State {
        final int[] at = new int[MOST_THINGS];
        /** The SET of THINGS that lie. */
        int lying = 0;
        /** The SET of HOLDS that hold. */
        int holding = 0;
        final int[] how = new int[MOST_HOLDS];
        final int[] book = new int[MOST_HOLDS];

        void copyFrom(State other) {
            System.arraycopy(other.at, 0, at, 0, MOST_THINGS);
            System.arraycopy(other.how, 0, how, 0, MOST_HOLDS);
            System.arraycopy(other.book, 0, book, 0, MOST_HOLDS);
            lying = other.lying;
            holding = other.holding;
        }

        boolean isLying(int t) {
            return (lying >>> t & 1) != 0;
        }

        boolean isHolding(int k) {
            return (holding >>> k & 1) != 0;
        }

        void fastenSo(int k, int kind, int weight) {
            how[k] = kind;
            book[k] = weight;
        }

        /** The SET of CELLS on which a THING is. */
        long taken(int things) {
            long all = 0;
            for (int t = 0; t < things; t++) {
                all |= 1L << at[t];
            }
            return all;
        }

        /** One number for where THINGS are and which lie: 7 bits for each of 8. */
        long thingKey(int things) {
            long key = 0;
            for (int t = 0; t < things; t++) {
                key = key << 7 | at[t] << 1 | (lying >>> t & 1);
            }
            return key;
        }
    }

    /** The EVENTS of one REST. */
    private static final class Log {
        final int[] what = new int[MOST_ROUNDS];
        final int[] which = new int[MOST_ROUNDS];
        int size = 0;

        void append(int kind, int number) {
            if (size < MOST_ROUNDS) {
                what[size] = kind;
                which[size] = number;
                size++;
            }
        }
    }

    /** How the CLOTHS hang in one state: HANGS and on which HOLD each CELL LEANS, cloth by cloth. */
    private static final class Hanging {
        final int[] tops = new int[MOST_CLOTHS * CELLS];
        final int[] leanings = new int[MOST_CLOTHS * CELLS];
        private final int[] ground = new int[CELLS];

        void lay(Plan plan, State state) {
            Arrays.fill(tops, NONE);
            Arrays.fill(leanings, NONE);
            Arrays.fill(ground, 0);
            for (int t = 0; t < plan.things; t++) {
                ground[state.at[t]] = (state.lying >>> t & 1) != 0 ? 1 : plan.tall[t];
            }
            for (int k = 0; k < plan.holds; k++) {
                if ((state.holding >>> k & 1) != 0) {
                    stretch(plan, k, state.at[plan.thingOf[k]]);
                }
            }
            for (int k = 0; k < plan.cloths; k++) {
                drop(plan, k);
            }
        }

        /** HOLDS come by numbers: so only a greater height takes a CELL from a lesser HOLD. */
        private void stretch(Plan plan, int hold, int peak) {
            int cloth = plan.clothOf[hold];
            int sag = plan.sag[cloth];
            int firstRow = plan.corner[cloth] / WIDE;
            int firstPlace = plan.corner[cloth] % WIDE;
            for (int r = firstRow; r < firstRow + plan.down[cloth]; r++) {
                int line = ground[peak] - sag * Math.abs(r - peak / WIDE);
                for (int p = firstPlace; p < firstPlace + plan.along[cloth]; p++) {
                    int high = line - sag * Math.abs(p - peak % WIDE);
                    int i = cloth * CELLS + r * WIDE + p;
                    if (leanings[i] == NONE || high > tops[i]) {
                        tops[i] = high;
                        leanings[i] = hold;
                    }
                }
            }
        }

        /** What would hang lower than THINGS or THE FLOOR lies on these, and LEANS on no HOLD. */
        private void drop(Plan plan, int cloth) {
            for (int c = 0; c < CELLS; c++) {
                int i = cloth * CELLS + c;
                if (plan.isUnder(cloth, c) && (leanings[i] == NONE || tops[i] < ground[c])) {
                    tops[i] = ground[c];
                    leanings[i] = NONE;
                }
            }
        }

        /** HEIGHT of a CELL. */
        int highest(int c) {
            int best = NONE;
            for (int i = c; i < tops.length; i += CELLS) {
                best = Math.max(best, tops[i]);
            }
            return best;
        }

        /** The CELLS of which ROOMS for h are made. */
        long roomy(Plan plan, State state, int h) {
            long free = plan.covered() & ~state.taken(plan.things);
            long all = 0;
            for (int c = 0; c < CELLS; c++) {
                if ((free >>> c & 1) != 0 && highest(c) >= h) {
                    all |= 1L << c;
                }
            }
            return all;
        }
    }

    /**
     * DRAWS and LOADS of the HOLDS, remembered for states met lately: many tries come by the same
     * few states, and kinds do not change how cloths hang.
     */
    private static final class Draws {
        static final int SLOTS = 256;

        final long[] keys = new long[SLOTS];
        final int[] sets = new int[SLOTS];
        final int[] rows = new int[SLOTS * MOST_HOLDS];
        final int[] places = new int[SLOTS * MOST_HOLDS];
        final int[] loads = new int[SLOTS * MOST_HOLDS];
        /** For which h the greatest ROOM of a slot is remembered (0: none), and its CELLS. */
        final int[] roomHigh = new int[SLOTS];
        final int[] roomCells = new int[SLOTS];
        final Hanging hanging = new Hanging();

        Draws() {
            Arrays.fill(sets, NONE);
        }

        void forget() {
            Arrays.fill(sets, NONE);
        }

        int slotOf(Plan plan, State state) {
            long key = state.thingKey(plan.things);
            long mixed = key * 0x9E3779B97F4A7C15L + state.holding * 0xC2B2AE3D27D4EB4FL;
            int slot = (int) (mixed >>> 40) & (SLOTS - 1);
            if (sets[slot] != state.holding || keys[slot] != key) {
                keys[slot] = key;
                sets[slot] = state.holding;
                roomHigh[slot] = 0;
                hanging.lay(plan, state);
                weigh(plan, state, slot * MOST_HOLDS);
            }
            return slot;
        }

        private void weigh(Plan plan, State state, int from) {
            Arrays.fill(rows, from, from + MOST_HOLDS, 0);
            Arrays.fill(places, from, from + MOST_HOLDS, 0);
            Arrays.fill(loads, from, from + MOST_HOLDS, 0);
            for (int i = 0; i < plan.cloths * CELLS; i++) {
                int hold = hanging.leanings[i];
                if (hold != NONE) {
                    int heavy = plan.heavy[i / CELLS];
                    int cell = i % CELLS;
                    int peak = state.at[plan.thingOf[hold]];
                    rows[from + hold] += heavy * sign(cell / WIDE - peak / WIDE);
                    places[from + hold] += heavy * sign(cell % WIDE - peak % WIDE);
                    loads[from + hold] += heavy;
                }
            }
        }

        private static int sign(int value) {
            return value > 0 ? 1 : value < 0 ? -1 : 0;
        }

        int drawOf(int slot, int hold) {
            int i = slot * MOST_HOLDS + hold;
            return Math.max(Math.abs(rows[i]), Math.abs(places[i]));
        }

        int loadOf(int slot, int hold) {
            return loads[slot * MOST_HOLDS + hold];
        }

        int roomOf(Plan plan, State state, int h) {
            int slot = slotOf(plan, state);
            if (roomHigh[slot] != h) {
                hanging.lay(plan, state);
                roomCells[slot] = Long.bitCount(Rooms.greatest(hanging.roomy(plan, state, h)));
                roomHigh[slot] = h;
            }
            return roomCells[slot];
        }
    }

    /** Finds what gives, tips or slides first, and goes on so to REST. */
    private static final class Settler {
        final Draws draws = new Draws();
        final int[] pullRows = new int[MOST_THINGS];
        final int[] pullPlaces = new int[MOST_THINGS];
        /** What presses a THING to THE FLOOR: W, LOADS and books. */
        final int[] pressed = new int[MOST_THINGS];
        private int what = GAVE;
        private int which = 0;
        private int where = NONE;

        void settle(Plan plan, State state, int bumped, int b, Log log) {
            log.size = 0;
            for (int i = 0; i < MOST_ROUNDS; i++) {
                if (isQuiet(plan, state, i == 0 ? bumped : NONE, b)) {
                    return;
                }
                happen(plan, state);
                log.append(what, which);
            }
        }

        /** Whether no ROUND is to come; else what, which and where tell the next one. */
        boolean isQuiet(Plan plan, State state, int bumped, int b) {
            int slot = draws.slotOf(plan, state);
            for (int k = 0; k < plan.holds; k++) {
                int bump = plan.thingOf[k] == bumped ? b : 0;
                if (state.isHolding(k) && letsGo(plan, state, slot, k, bump)) {
                    return found(GAVE, k, NONE);
                }
            }
            gather(plan, state, slot);
            for (int t = 0; t < plan.things; t++) {
                int size = sizeOf(t) + (t == bumped ? b : 0);
                if (!state.isLying(t) && size * plan.tall[t] > plan.weight[t] * plan.base[t]) {
                    return found(TIPPED, t, NONE);
                }
            }
            for (int t = 0; t < plan.things; t++) {
                int size = sizeOf(t) + (t == bumped ? b : 0);
                if (size > pressed[t] * plan.rub[t] / 10 && wayOf(plan, state, t) != NONE) {
                    return found(SLID, t, wayOf(plan, state, t));
                }
            }
            return true;
        }

        private boolean found(int kind, int number, int cell) {
            what = kind;
            which = number;
            where = cell;
            return false;
        }

        boolean letsGo(Plan plan, State state, int slot, int k, int bump) {
            int strain = draws.drawOf(slot, k) + bump;
            switch (state.how[k]) {
                case LAID: return strain > draws.loadOf(slot, k) * plan.rub[plan.thingOf[k]] / 10;
                case PEG: return strain > 40;
                case BOOK: return strain > 2 * state.book[k];
                case TIED: return strain > 80;
                default: return false;
            }
        }

        /** PULLS of all THINGS, and what presses them. */
        void gather(Plan plan, State state, int slot) {
            for (int t = 0; t < plan.things; t++) {
                pullRows[t] = 0;
                pullPlaces[t] = 0;
                pressed[t] = plan.weight[t];
            }
            for (int k = 0; k < plan.holds; k++) {
                if (state.isHolding(k)) {
                    int t = plan.thingOf[k];
                    pullRows[t] += draws.rows[slot * MOST_HOLDS + k];
                    pullPlaces[t] += draws.places[slot * MOST_HOLDS + k];
                    pressed[t] += draws.loads[slot * MOST_HOLDS + k] + state.book[k];
                }
            }
        }

        int sizeOf(int t) {
            return Math.max(Math.abs(pullRows[t]), Math.abs(pullPlaces[t]));
        }

        /** The CELL to which a THING would slide; NONE, if it cannot. */
        private int wayOf(Plan plan, State state, int t) {
            int row = state.at[t] / WIDE;
            int place = state.at[t] % WIDE;
            if (pullRows[t] == 0 && pullPlaces[t] == 0) {
                row++;
            } else if (Math.abs(pullRows[t]) >= Math.abs(pullPlaces[t])) {
                row += pullRows[t] > 0 ? 1 : -1;
            } else {
                place += pullPlaces[t] > 0 ? 1 : -1;
            }
            if (row < 0 || row >= WIDE || place < 0 || place >= WIDE) {
                return NONE;
            }
            int cell = row * WIDE + place;
            return (state.taken(plan.things) >>> cell & 1) != 0 ? NONE : cell;
        }

        /** Does what isQuiet found. */
        private void happen(Plan plan, State state) {
            if (what == GAVE) {
                state.holding &= ~(1 << which);
            } else if (what == TIPPED) {
                state.lying |= 1 << which;
            } else {
                state.at[which] = where;
                for (int k = 0; k < plan.holds; k++) {
                    if (plan.thingOf[k] == which && !plan.reaches(state, k)) {
                        state.holding &= ~(1 << k);
                    }
                }
            }
        }
    }

    /** ROOMS, DOORS and LIGHT over SETS of CELLS. */
    private static final class Rooms {
        private static final long FIRST_PLACES = 0x0101010101010101L;

        /** All SIDES of the CELLS of a SET. */
        static long sidesOf(long set) {
            long along = (set & ~(FIRST_PLACES << 7)) << 1;
            long back = (set & ~FIRST_PLACES) >>> 1;
            return set << WIDE | set >>> WIDE | along | back;
        }

        static int leastCell(long set) {
            return set == 0 ? NONE : Long.bitCount((set & -set) - 1);
        }

        /** The ROOM of a part with its least CELL. */
        private static long firstRoom(long part) {
            long room = part & -part;
            for (int i = 0; i < CELLS; i++) {
                long wider = (room | sidesOf(room)) & part;
                if (wider == room) {
                    break;
                }
                room = wider;
            }
            return room;
        }

        static long greatest(long part) {
            long best = 0;
            long left = part;
            for (int i = 0; i < CELLS && left != 0; i++) {
                long room = firstRoom(left);
                if (Long.bitCount(room) > Long.bitCount(best)) {
                    best = room;
                }
                left &= ~room;
            }
            return best;
        }

        static int howMany(long part) {
            int many = 0;
            long left = part;
            for (int i = 0; i < CELLS && left != 0; i++) {
                left &= ~firstRoom(left);
                many++;
            }
            return many;
        }

        static int doorsOf(long room, long doorways) {
            return Long.bitCount(room & sidesOf(doorways));
        }

        /** The greatest LIGHT of some CELLS: that of those nearest to where no CLOTH is. */
        static int lightOf(Plan plan, long set) {
            long lit = ~plan.covered();
            int steps = lit == 0 ? 100 : 0;
            for (int i = 0; i < CELLS && lit != 0 && (lit & set) == 0; i++) {
                lit |= sidesOf(lit);
                steps++;
            }
            return Math.max(0, plan.bright - plan.fade * steps);
        }
    }

    /** What could be: all tried on copies, so nothing that is so changes. */
    private static final class Tries {
        private final State trial = new State();
        private final Log spare = new Log();
        private final boolean[] good = new boolean[1 << MOST_TRIED];
        private final int[] member = new int[MOST_TRIED];
        final int[] orderRow = new int[MOST_TRIED];
        int members = 0;
        int mostCells = 0;
        int mostRow = 0;
        /** Of what the latest answer of findMost is: that hangs on these four alone. */
        private boolean mostKnown = false;
        private long mostKey = 0;
        private int mostHigh = 0;
        private int mostPegs = 0;
        private int mostBooks = 0;

        void forgetMost() {
            mostKnown = false;
        }

        /** HOLDS that gave hold again, where they can. */
        private void holdAgain(Plan plan, State now) {
            trial.copyFrom(now);
            trial.holding = 0;
            for (int k = 0; k < plan.holds; k++) {
                if (plan.reaches(now, k)) {
                    trial.holding |= 1 << k;
                }
            }
        }

        /** How HOLD k is held by a row: rows are numbers of three signs, HOLD 0 the highest. */
        static int kindIn(int row, int k, int holds) {
            int left = row;
            for (int i = holds - 1; i > k; i--) {
                left /= 3;
            }
            return left % 3;
        }

        private static int howManyOf(int kind, int row, int holds) {
            int many = 0;
            int left = row;
            for (int i = 0; i < holds; i++) {
                many += left % 3 == kind ? 1 : 0;
                left /= 3;
            }
            return many;
        }

        void findMost(Settler settler, Plan plan, State now, int h, int p, int q) {
            long key = now.thingKey(plan.things);
            if (mostKnown && mostKey == key && mostHigh == h && mostPegs == p && mostBooks == q) {
                return;
            }
            mostCells = NONE;
            int rows = 1;
            for (int k = 0; k < plan.holds && k < MOST_TRIED; k++) {
                rows *= 3;
            }
            for (int row = 0; row < rows; row++) {
                if (howManyOf(PEG, row, plan.holds) <= p && howManyOf(BOOK, row, plan.holds) <= q) {
                    holdBy(plan, now, row);
                    settler.settle(plan, trial, NONE, 0, spare);
                    int found = settler.draws.roomOf(plan, trial, h);
                    if (found > mostCells) {
                        mostCells = found;
                        mostRow = row;
                    }
                }
            }
            mostKnown = true;
            mostKey = key;
            mostHigh = h;
            mostPegs = p;
            mostBooks = q;
        }

        private void holdBy(Plan plan, State now, int row) {
            holdAgain(plan, now);
            int left = row;
            for (int k = plan.holds - 1; k >= 0; k--) {
                int kind = left % 3;
                trial.fastenSo(k, kind, kind == BOOK ? 20 : 0);
                left /= 3;
            }
        }

        int fewestPegs(Settler settler, Plan plan, State now) {
            int best = NONE;
            for (int pegs = 0; pegs < 1 << plan.holds; pegs++) {
                int many = Integer.bitCount(pegs);
                if (best == NONE || many < best) {
                    holdAgain(plan, now);
                    for (int k = 0; k < plan.holds; k++) {
                        trial.fastenSo(k, (pegs >>> k & 1) != 0 ? PEG : LAID, 0);
                    }
                    if (settler.isQuiet(plan, trial, NONE, 0)) {
                        best = many;
                    }
                }
            }
            return best;
        }

        /**
         * Whether there is AN ORDER; orderRow is the first then. Whether THE DEN stands hangs on
         * which HOLDS are done alone, not on their order: so SETS are judged, from all done on.
         */
        boolean findOrder(Settler settler, Plan plan, State now, int hands, boolean down) {
            members = 0;
            for (int k = 0; k < plan.holds; k++) {
                if (now.isHolding(k) && members < MOST_TRIED) {
                    member[members] = k;
                    members++;
                }
            }
            int all = (1 << members) - 1;
            for (int done = all; done >= 0; done--) {
                boolean leads = done == all || nextIn(done) != NONE;
                int up = down ? all & ~done : done;
                good[done] = leads && (done == 0 || standsBy(settler, plan, now, up, hands));
            }
            if (!good[0]) {
                return false;
            }
            int done = 0;
            for (int i = 0; i < members; i++) {
                int next = nextIn(done);
                if (next == NONE) {
                    return false;
                }
                orderRow[i] = member[next];
                done |= 1 << next;
            }
            return true;
        }

        /** The least member, not done yet, behind which the ORDER can go on. */
        private int nextIn(int done) {
            for (int i = 0; i < members; i++) {
                if ((done >>> i & 1) == 0 && good[done | 1 << i]) {
                    return i;
                }
            }
            return NONE;
        }

        /** Whether it stands by the members that are up, and the first others in hands. */
        private boolean standsBy(Settler settler, Plan plan, State now, int up, int hands) {
            trial.copyFrom(now);
            trial.holding = 0;
            int free = hands;
            for (int i = 0; i < members; i++) {
                int k = member[i];
                if ((up >>> i & 1) != 0) {
                    trial.holding |= 1 << k;
                } else if (free > 0) {
                    free--;
                    trial.holding |= 1 << k;
                    // Hands never give, as what is trapped; its book, if it has one, stays on it.
                    trial.how[k] = TRAPPED;
                }
            }
            return settler.isQuiet(plan, trial, NONE, 0);
        }

        int firstGone(Settler settler, Plan plan, State now, int told) {
            int set = 0;
            for (int k = 0; k < plan.holds; k++) {
                if (now.isHolding(k)) {
                    trial.copyFrom(now);
                    trial.holding &= ~(1 << k);
                    settler.settle(plan, trial, NONE, 0, spare);
                    if (trial.holding == told) {
                        set |= 1 << k;
                    }
                }
            }
            return set;
        }

        int leastTied(Settler settler, Plan plan, State now, int t, int b) {
            for (int many = 0; many <= 2; many++) {
                for (int set = 0; set < 1 << plan.holds; set++) {
                    boolean fits = Integer.bitCount(set) == many && (set & ~now.holding) == 0;
                    if (fits && bearsTied(settler, plan, now, set, t, b)) {
                        return set;
                    }
                }
            }
            return NONE;
        }

        private boolean bearsTied(Settler settler, Plan plan, State now, int set, int t, int b) {
            trial.copyFrom(now);
            for (int k = 0; k < plan.holds; k++) {
                if ((set >>> k & 1) != 0) {
                    trial.fastenSo(k, TIED, 0);
                }
            }
            return settler.isQuiet(plan, trial, t, b);
        }
    }

    /** TOWER: judged by SETS of THINGS, each by which of them can be below the others. */
    private static final class Tower {
        private final int[] weights = new int[1 << MOST_THINGS];
        private final int[] heights = new int[1 << MOST_THINGS];
        private final boolean[] sound = new boolean[1 << MOST_THINGS];
        private final int[] tried = new int[MOST_THINGS];
        final int[] row = new int[MOST_THINGS];
        int size = 0;
        int tallest = 0;

        void build(Plan plan) {
            size = 0;
            tallest = 0;
            for (int set = 0; set < 1 << plan.things; set++) {
                sum(plan, set);
                sound[set] = set == 0 || lowestOf(plan, set) != NONE;
                if (sound[set] && heights[set] >= tallest) {
                    compare(plan, set);
                }
            }
        }

        private void sum(Plan plan, int set) {
            weights[set] = 0;
            heights[set] = 0;
            for (int t = 0; t < plan.things; t++) {
                if ((set >>> t & 1) != 0) {
                    weights[set] += plan.weight[t];
                    heights[set] += plan.tall[t];
                }
            }
        }

        /** The least THING that bears all others of a SET, if these can stand; NONE. */
        private int lowestOf(Plan plan, int set) {
            for (int t = 0; t < plan.things; t++) {
                int others = set & ~(1 << t);
                if (others != set && sound[others] && weights[others] <= 3 * plan.weight[t]) {
                    return t;
                }
            }
            return NONE;
        }

        /** Takes the first row of a SET, if it is higher, or ahead of the row so far. */
        private void compare(Plan plan, int set) {
            int many = 0;
            int left = set;
            for (int i = 0; i < MOST_THINGS && left != 0; i++) {
                int t = lowestOf(plan, left);
                if (t == NONE) {
                    return;
                }
                tried[many] = t;
                many++;
                left &= ~(1 << t);
            }
            if (heights[set] > tallest || isAhead(many)) {
                tallest = heights[set];
                size = many;
                System.arraycopy(tried, 0, row, 0, MOST_THINGS);
            }
        }

        private boolean isAhead(int many) {
            for (int i = 0; i < many && i < size; i++) {
                if (tried[i] != row[i]) {
                    return tried[i] < row[i];
                }
            }
            return false;
        }
    }

    /** What a WANT asks of the greatest ROOM. */
    private static final class Want {
        int cellsWanted = 0;
        int high = 5;
        int dark = 99;
        boolean door = false;
        boolean standing = false;

        void readFrom(Script in) {
            if (!in.takes("room")) {
                in.blame(1, in.start);
            }
            cellsWanted = in.number(0, CELLS);
            high = in.takes("high") ? in.number(1, 20) : 5;
            dark = in.takes("dark") ? in.number(0, 99) : 99;
            door = in.takes("door");
            standing = in.takes("stands");
            if (in.isGoingOn()) {
                in.blame(1, in.start);
            }
        }

        void copyFrom(Want other) {
            cellsWanted = other.cellsWanted;
            high = other.high;
            dark = other.dark;
            door = other.door;
            standing = other.standing;
        }
    }
}
