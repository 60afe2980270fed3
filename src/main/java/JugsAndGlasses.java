import java.util.Arrays;

/**
 * Measures made by filling, emptying and pouring between jugs, and spans of time
 * measured by sand glasses. The words in capitals (ROW, AIM, ROAD, WAIT ..) are the document's.
 */
public final class JugsAndGlasses {
    public static final int NONE = -1, BAD = -2, NOT = -3, FULL = -4;

    private static final int MOST_JUGS = 4, MOST_SIZE = 10;
    private static final int ACTS = 24;
    private static final long MOST_ROWS = 1000000000000000000L;
    private static final int TAP = 0, DRAIN = 1;
    private static final int MOST_IN_SIZES = 3;
    private static final int MOST_GLASSES = 3, MOST_SPAN = 12, MOST_WAITED_FOR = 40, LATEST_WAIT = 60;

    /** Which JUG an ACT takes from, and which it brings to; NONE: from the TAP, down the DRAIN. */
    private static final int[] GIVER = {
        -1, -1, -1, -1, 0, 1, 2, 3, 0, 0, 0, 0, 1, 1, 1, 1, 2, 2, 2, 2, 3, 3, 3, 3};
    private static final int[] TAKER = {
        0, 1, 2, 3, -1, -1, -1, -1, 0, 1, 2, 3, 0, 1, 2, 3, 0, 1, 2, 3, 0, 1, 2, 3};

    /** How many ways there are for four JUGS of 10 to hold, and for two. */
    private static final int MOST_CODES = 14641, MOST_CODES_OF_TWO = 121;

    private final Jugs jugs;
    private final Search search;
    private final Glasses glasses;

    public JugsAndGlasses() {
        search = new Search();
        jugs = search.jugs;
        glasses = new Glasses();
    }

    public int jug(int size, int holds) {
        if (size < 1 || size > MOST_SIZE || holds < 0 || holds > size) {
            return BAD;
        }
        if (jugs.number >= MOST_JUGS) {
            return FULL;
        }
        search.forget();
        return jugs.add(size, holds);
    }

    public int set(int way, boolean on) {
        if (way != TAP && way != DRAIN) {
            return BAD;
        }
        boolean was = way == TAP ? jugs.tap : jugs.drain;
        if (way == TAP) {
            jugs.tap = on;
        } else {
            jugs.drain = on;
        }
        search.forget();
        return was ? 1 : 0;
    }

    public int put(int jug, int v) {
        if (!jugs.has(jug) || v < 0 || v > jugs.size[jug]) {
            return BAD;
        }
        int was = jugs.held[jug];
        jugs.held[jug] = v;
        search.forget();
        return was;
    }

    public int holds(int jug) {
        return jugs.has(jug) ? jugs.held[jug] : BAD;
    }

    public int act(int a) {
        if (!jugs.haveAct(a)) {
            return BAD;
        }
        int units = jugs.moved(a);
        if (units == 0) {
            return NOT;
        }
        jugs.move(a, units);
        search.forget();
        return units;
    }

    public int clear() {
        search.forget();
        return jugs.removeAll();
    }

    public int fewest(int i, int v) {
        if (!isAim(i, v)) {
            return BAD;
        }
        search.explore();
        return search.all.acts(search.nearest(i, v));
    }

    public long rows(int i, int v) {
        if (!isAim(i, v)) {
            return BAD;
        }
        search.explore();
        search.countWays();
        return search.waysTo(i, v);
    }

    public int best(int i, int v, int n) {
        if (!isAim(i, v) || n < 0) {
            return BAD;
        }
        search.explore();
        return search.all.actOfRow(search.nearest(i, v), n);
    }

    public int sparing(int i, int v, int way) {
        if (!isAim(i, v) || way < 0 || way > 1) {
            return BAD;
        }
        search.explore();
        search.exploreSparing();
        int end = search.thriftiest(i, v);
        return way == 0 ? search.spilling.leastFor(end) : search.thrifty.acts(end);
    }

    public int spare(int i, int v, int n) {
        if (!isAim(i, v) || n < 0) {
            return BAD;
        }
        search.explore();
        search.exploreSparing();
        return search.thrifty.actOfRow(search.thriftiest(i, v), n);
    }

    public int makes() {
        search.explore();
        return search.allHeld();
    }

    public int reaches() {
        search.explore();
        return search.all.reached;
    }

    public int road(int i, int v) {
        if (!jugs.has(i) || v < 1 || v > MOST_SIZE) {
            return BAD;
        }
        if (jugs.number != 2) {
            return NOT;
        }
        return actsOfRoad(jugs.size[i], jugs.size[1 - i], v);
    }

    /*
     * Some JUG must hold b, so the largest SIZE is b or more, and each other one 1 or more. 1, .., 1, b
     * have that least sum, and no other SIZES do; and two JUGS of 1 and b make all, as b is poured
     * off into 1 unit by unit. One JUG alone only ever holds 0 or its SIZE.
     */
    public int sizes(int k, int b, int i) {
        if (k < 1 || k > MOST_IN_SIZES || b < 1 || b > MOST_SIZE || i < 0 || i >= k) {
            return BAD;
        }
        if (k == 1 && b > 1) {
            return NONE;
        }
        return i == k - 1 ? b : 1;
    }

    public int glass(int span) {
        if (span < 1 || span > MOST_SPAN) {
            return BAD;
        }
        return glasses.number >= MOST_GLASSES ? FULL : glasses.add(span);
    }

    public int smash() {
        return glasses.removeAll();
    }

    public int await(int s) {
        if (s < 1 || s > MOST_WAITED_FOR) {
            return BAD;
        }
        glasses.workOut();
        return glasses.waitOf[s];
    }

    public int turns(int s) {
        if (s < 1 || s > MOST_WAITED_FOR) {
            return BAD;
        }
        glasses.workOut();
        return glasses.turnsOf[s];
    }

    public long spans(int w) {
        if (w < 0 || w > LATEST_WAIT) {
            return BAD;
        }
        glasses.workOut();
        long bits = 0;
        for (int s = 1; s <= MOST_WAITED_FOR; s++) {
            if (glasses.waitOf[s] != NONE && glasses.waitOf[s] <= w) {
                bits |= 1L << s;
            }
        }
        return bits;
    }

    public int count(int what) {
        switch (what) {
            case 0:
                return jugs.number;
            case 1:
                return glasses.number;
            case 2:
                return jugs.heldTogether();
            case 3:
                return jugs.actsNow();
            default:
                return BAD;
        }
    }

    private boolean isAim(int i, int v) {
        return (i == NONE || jugs.has(i)) && v >= 0 && v <= MOST_SIZE;
    }

    /** ACTS of the ROAD from a JUG of one size to one of another until v is held; NONE. */
    private static int actsOfRoad(int size, int otherSize, int v) {
        int held = 0;
        int other = 0;
        // No way to hold comes twice on the ROAD, so it has no more ACTS than there are such ways.
        for (int done = 1; done <= MOST_CODES_OF_TWO; done++) {
            if (other == otherSize) {
                other = 0;
            } else if (held == 0) {
                held = size;
            } else {
                int units = Math.min(held, otherSize - other);
                held -= units;
                other += units;
            }
            if (held == v || other == v) {
                return done;
            }
            if (held == 0 && other == 0) {
                return NONE;
            }
        }
        return NONE;
    }

    /** How long rows for so many CODES are made: twice as long as before, so that they are seldom made. */
    private static int lengthFor(int codes, int before) {
        return Math.min(MOST_CODES, Math.max(codes, 2 * before));
    }

    /**
     * JUGS and what they hold: the true ones, and those that a search tries ACTS on. What all hold is
     * one number, its CODE: a digit for each JUG, of base SIZE + 1; a unit in a JUG weighs as much as
     * there are CODES of the JUGS ahead of it.
     */
    private static final class Jugs {
        int number = 0;
        int codes = 1;
        boolean tap = true;
        boolean drain = true;
        final int[] size = new int[MOST_JUGS];
        final int[] held = new int[MOST_JUGS];
        private final int[] weight = new int[MOST_JUGS];

        boolean has(int i) {
            return i >= 0 && i < number && i < MOST_JUGS;
        }

        int add(int newSize, int newHeld) {
            if (number >= MOST_JUGS) {
                return FULL;
            }
            size[number] = newSize;
            held[number] = newHeld;
            weight[number] = codes;
            codes *= newSize + 1;
            number++;
            return number - 1;
        }

        int removeAll() {
            int were = number;
            number = 0;
            codes = 1;
            return were;
        }

        void liken(Jugs other) {
            number = other.number;
            codes = other.codes;
            tap = other.tap;
            drain = other.drain;
            for (int i = 0; i < MOST_JUGS; i++) {
                size[i] = other.size[i];
                held[i] = other.held[i];
                weight[i] = other.weight[i];
            }
        }

        boolean haveAct(int a) {
            return a >= 0 && a < ACTS && GIVER[a] < number && TAKER[a] < number && GIVER[a] != TAKER[a];
        }

        /** How many units an ACT moves now; 0: it cannot be done. */
        int moved(int a) {
            if (a < 0 || a >= ACTS) {
                return 0;
            }
            int from = GIVER[a];
            int to = TAKER[a];
            if (from >= number || to >= number || from == to) {
                return 0;
            }
            // A TAP has more than any JUG takes, a DRAIN takes more than any JUG has.
            int there = from >= 0 ? held[from] : tap ? MOST_SIZE : 0;
            int room = to >= 0 ? size[to] - held[to] : drain ? MOST_SIZE : 0;
            return there < room ? there : room;
        }

        /** An ACT that can be done now moves its units. */
        void move(int a, int units) {
            if (!haveAct(a)) {
                return;
            }
            if (GIVER[a] >= 0) {
                held[GIVER[a]] -= units;
            }
            if (TAKER[a] >= 0) {
                held[TAKER[a]] += units;
            }
        }

        /** By how much an ACT changes the CODE; 0: it cannot be done. */
        int shiftBy(int a) {
            int units = moved(a);
            if (units == 0) {
                return 0;
            }
            int gone = GIVER[a] >= 0 ? weight[GIVER[a]] : 0;
            int come = TAKER[a] >= 0 ? weight[TAKER[a]] : 0;
            return units * (come - gone);
        }

        /** How many units an ACT spills, if it can be done now. */
        int spiltBy(int a) {
            return a >= 0 && a < ACTS && TAKER[a] < 0 && GIVER[a] >= 0 ? held[GIVER[a]] : 0;
        }

        int code() {
            int code = 0;
            for (int i = 0; i < number && i < MOST_JUGS; i++) {
                code += held[i] * weight[i];
            }
            return code;
        }

        /** The JUGS hold from now on what a CODE says. */
        void stand(int code) {
            int rest = code;
            for (int i = 0; i < number && i < MOST_JUGS; i++) {
                int base = size[i] + 1;
                if (base > 1) {
                    held[i] = rest % base;
                    rest /= base;
                }
            }
        }

        boolean meet(int i, int v) {
            if (i >= 0) {
                return has(i) && held[i] == v;
            }
            for (int j = 0; j < number && j < MOST_JUGS; j++) {
                if (held[j] == v) {
                    return true;
                }
            }
            return false;
        }

        int heldTogether() {
            int sum = 0;
            for (int i = 0; i < number && i < MOST_JUGS; i++) {
                sum += held[i];
            }
            return sum;
        }

        int actsNow() {
            int can = 0;
            for (int a = 0; a < ACTS; a++) {
                if (moved(a) > 0) {
                    can++;
                }
            }
            return can;
        }
    }

    /**
     * The CODES that ROWS lead to, by how many ACTS they take, each with the ACT that led there first.
     * As ACTS are tried in their order, CODES with as many ACTS are found in the ORDER of their first
     * ROWS, and the ACT that found a CODE is the last one of its first ROW.
     */
    private static final class Tour {
        private static final int ACT_ROOM = 32;
        int[] found = new int[0];
        int[] level = new int[0];
        /** The CODE from which each was found, times ACT_ROOM, and the ACT by which it was. */
        private int[] cause = new int[0];
        int reached = 0;

        boolean knows(int code) {
            return code >= 0 && code < level.length && level[code] >= 0;
        }

        private void start(int codes, int code) {
            if (level.length < codes) {
                int length = lengthFor(codes, level.length);
                found = new int[length];
                level = new int[length];
                cause = new int[length];
            }
            Arrays.fill(level, NONE);
            reached = 0;
            if (code >= 0 && code < level.length) {
                found[0] = code;
                level[code] = 0;
                reached = 1;
            }
        }

        /** Goes everywhere from where the JUGS stand; with a spilling, only by what is spilt least. */
        void walk(Jugs trial, Spilling spilling) {
            start(trial.codes, trial.code());
            for (int k = 0; k < reached && k < found.length; k++) {
                int code = found[k];
                trial.stand(code);
                for (int a = 0; a < ACTS; a++) {
                    int to = code + trial.shiftBy(a);
                    if (to < 0 || to >= level.length || level[to] >= 0) {
                        continue;
                    }
                    if (spilling == null || spilling.isLeast(code, to, trial.spiltBy(a))) {
                        enter(code, a, to);
                    }
                }
            }
        }

        private void enter(int from, int a, int to) {
            if (reached >= found.length || !knows(from) || to < 0 || to >= level.length) {
                return;
            }
            found[reached] = to;
            reached++;
            level[to] = level[from] + 1;
            cause[to] = from * ACT_ROOM + a;
        }

        int acts(int code) {
            return knows(code) ? level[code] : NONE;
        }

        /** ACT n of the first ROW to a CODE; NONE: it has not so many. */
        int actOfRow(int code, int n) {
            if (!knows(code) || n < 0 || n >= level[code]) {
                return NONE;
            }
            int at = code;
            for (int k = level[code] - 1; k > n && knows(at); k--) {
                at = cause[at] / ACT_ROOM;
            }
            return knows(at) ? cause[at] % ACT_ROOM : NONE;
        }
    }

    /** The least that ROWS spill on their way to each CODE. */
    private static final class Spilling {
        private static final int UNTOLD = 1000000;
        private int[] least = new int[0];
        private int[] work = new int[0];

        void measure(Jugs trial, Tour all) {
            if (least.length < all.level.length) {
                least = new int[all.level.length];
                work = new int[all.level.length];
            }
            Arrays.fill(least, UNTOLD);
            int start = trial.code();
            if (start >= 0 && start < least.length) {
                least[start] = 0;
            }
            int settled = 0;
            for (int spilt = 0; spilt < UNTOLD && settled < all.reached; spilt++) {
                settled += settle(trial, all, spilt);
            }
        }

        /** Goes on from all CODES for which just so much must be spilt: how many these are. */
        private int settle(Jugs trial, Tour all, int spilt) {
            int waiting = 0;
            for (int k = 0; k < all.reached && k < work.length; k++) {
                int code = all.found[k];
                if (leastFor(code) == spilt) {
                    work[waiting] = code;
                    waiting++;
                }
            }
            for (int k = 0; k < waiting && k < work.length; k++) {
                int code = work[k];
                trial.stand(code);
                for (int a = 0; a < ACTS; a++) {
                    int to = code + trial.shiftBy(a);
                    int sum = spilt + trial.spiltBy(a);
                    if (to < 0 || to >= least.length || least[to] <= sum) {
                        continue;
                    }
                    least[to] = sum;
                    if (sum == spilt && waiting < work.length) {
                        work[waiting] = to;
                        waiting++;
                    }
                }
            }
            return waiting;
        }

        boolean isLeast(int from, int to, int units) {
            return from >= 0 && from < least.length && to >= 0 && to < least.length
                && least[to] == least[from] + units;
        }

        int leastFor(int code) {
            return code >= 0 && code < least.length ? least[code] : NONE;
        }
    }

    /** What can be made of the JUGS as they are, worked out once and kept until they change. */
    private static final class Search {
        final Jugs jugs = new Jugs();
        private final Jugs trial = new Jugs();
        final Tour all = new Tour();
        final Tour thrifty = new Tour();
        final Spilling spilling = new Spilling();
        private long[] ways = new long[0];
        private boolean explored = false;
        private boolean counted = false;
        private boolean exploredSparing = false;

        void forget() {
            explored = false;
            counted = false;
            exploredSparing = false;
        }

        void explore() {
            if (!explored) {
                trial.liken(jugs);
                all.walk(trial, null);
                explored = true;
            }
        }

        /** Only behind explore. */
        void exploreSparing() {
            if (!exploredSparing) {
                trial.liken(jugs);
                spilling.measure(trial, all);
                trial.liken(jugs);
                thrifty.walk(trial, spilling);
                exploredSparing = true;
            }
        }

        /** How many FEWEST ROWS lead to each CODE; only behind explore. */
        void countWays() {
            if (counted) {
                return;
            }
            if (ways.length < all.level.length) {
                ways = new long[all.level.length];
            }
            Arrays.fill(ways, 0L);
            int start = jugs.code();
            if (start >= 0 && start < ways.length) {
                ways[start] = 1;
            }
            for (int k = 0; k < all.reached && k < all.found.length; k++) {
                int code = all.found[k];
                int next = all.acts(code) + 1;
                trial.stand(code);
                for (int a = 0; a < ACTS; a++) {
                    int to = code + trial.shiftBy(a);
                    if (to >= 0 && to < ways.length && all.acts(to) == next) {
                        ways[to] = Math.min(MOST_ROWS, ways[to] + waysFor(code));
                    }
                }
            }
            counted = true;
        }

        /** The CODE at the end of the first of FEWEST; NONE: the AIM cannot be made. */
        int nearest(int i, int v) {
            for (int k = 0; k < all.reached && k < all.found.length; k++) {
                trial.stand(all.found[k]);
                if (trial.meet(i, v)) {
                    return all.found[k];
                }
            }
            return NONE;
        }

        /** The CODE at the end of the first of SPARING ROWS; NONE: the AIM cannot be made. */
        int thriftiest(int i, int v) {
            int best = NONE;
            for (int k = 0; k < thrifty.reached && k < thrifty.found.length; k++) {
                int code = thrifty.found[k];
                trial.stand(code);
                if (trial.meet(i, v) && (best == NONE || spilling.leastFor(code) < spilling.leastFor(best))) {
                    best = code;
                }
            }
            return best;
        }

        private long waysFor(int code) {
            return code >= 0 && code < ways.length ? ways[code] : 0L;
        }

        long waysTo(int i, int v) {
            int fewestActs = all.acts(nearest(i, v));
            long sum = 0;
            for (int k = 0; k < all.reached && k < all.found.length; k++) {
                int code = all.found[k];
                trial.stand(code);
                if (all.acts(code) == fewestActs && trial.meet(i, v)) {
                    sum = Math.min(MOST_ROWS, sum + waysFor(code));
                }
            }
            return sum;
        }

        int allHeld() {
            int bits = 0;
            for (int k = 0; k < all.reached && k < all.found.length; k++) {
                trial.stand(all.found[k]);
                for (int i = 0; i < trial.number && i < MOST_JUGS; i++) {
                    bits |= 1 << trial.held[i];
                }
            }
            return bits;
        }
    }

    /**
     * GLASSES, and WAIT and TURNS of every span, worked out once and kept until the GLASSES change.
     * What is ABOVE at an EVENT, ahead of turning, is one number, its STATE: a digit of base 12 for
     * each GLASS (one that runs has run for a moment at least, so less than its SPAN is ABOVE).
     */
    private static final class Glasses {
        private static final int[] STATES = {1, 12, 144, 1728};
        private static final int[] PLACE = {1, 12, 144};
        private static final int CHOICES = 8, MOMENTS = 16, FAR = 1000000;
        private static final int RING = MOST_SPAN + 1;

        int number = 0;
        final int[] span = new int[MOST_GLASSES];
        final int[] waitOf = new int[MOST_WAITED_FOR + 1];
        final int[] turnsOf = new int[MOST_WAITED_FOR + 1];
        private boolean known = false;
        /** The STATES that can come, and whether one has been listed. */
        private int[] events = new int[0];
        private boolean[] listed = new boolean[0];
        private int listedEvents = 0;
        /** By STATE and choice what GLASSES to turn: the next STATE and the moments until then. */
        private int[] leap = new int[0];
        /** By STATE: the least TIME at which it comes, and the fewest turned until then. */
        private int[] early = new int[0];
        private int[] turned = new int[0];
        /** By STATE and span (the last few): the fewest turned so that an EVENT comes just then. */
        private int[] ahead = new int[0];

        int add(int newSpan) {
            if (number >= MOST_GLASSES) {
                return FULL;
            }
            span[number] = newSpan;
            number++;
            known = false;
            return number - 1;
        }

        int removeAll() {
            int were = number;
            number = 0;
            known = false;
            return were;
        }

        void workOut() {
            if (known) {
                return;
            }
            if (number < 0 || number >= STATES.length) {
                return;
            }
            makeRoom(STATES[number]);
            listEvents();
            goForth();
            for (int s = 0; s <= MOST_WAITED_FOR; s++) {
                lookAhead(s);
                answer(s);
            }
            known = true;
        }

        private void makeRoom(int states) {
            if (events.length < states) {
                events = new int[states];
                listed = new boolean[states];
                leap = new int[states * CHOICES];
                early = new int[states];
                turned = new int[states];
                ahead = new int[states * RING];
            }
            for (int k = 0; k < listed.length; k++) {
                listed[k] = false;
            }
            listedEvents = 0;
        }

        private void listEvents() {
            list(0);
            for (int k = 0; k < listedEvents && k < events.length; k++) {
                int state = events[k];
                for (int choice = 0; choice < 1 << number; choice++) {
                    int at = state * CHOICES + choice;
                    int next = leapFrom(state, choice);
                    if (at >= 0 && at < leap.length) {
                        leap[at] = next;
                    }
                    if (next != NONE) {
                        list(next / MOMENTS);
                    }
                }
            }
        }

        private void list(int state) {
            if (state >= 0 && state < listed.length && !listed[state] && listedEvents < events.length) {
                listed[state] = true;
                events[listedEvents] = state;
                listedEvents++;
            }
        }

        /** The next STATE, times MOMENTS, and the moments until it comes; NONE: it never does. */
        private int leapFrom(int state, int choice) {
            int first = FAR;
            for (int g = 0; g < number && g < MOST_GLASSES; g++) {
                int sand = sandAbove(state, choice, g);
                if (sand > 0 && sand < first) {
                    first = sand;
                }
            }
            if (first == FAR) {
                return NONE;
            }
            int next = 0;
            for (int g = 0; g < number && g < MOST_GLASSES; g++) {
                next += Math.max(0, sandAbove(state, choice, g) - first) * PLACE[g];
            }
            return next * MOMENTS + first;
        }

        /** The same, as it was kept. */
        private int leapBy(int state, int choice) {
            int at = state * CHOICES + choice;
            return at >= 0 && at < leap.length ? leap[at] : NONE;
        }

        /** What is ABOVE in a GLASS when the chosen ones have been turned. */
        private int sandAbove(int state, int choice, int g) {
            int rest = state;
            for (int k = 0; k < g; k++) {
                rest /= MOST_SPAN;
            }
            int sand = rest % MOST_SPAN;
            return (choice >> g & 1) == 1 ? span[g] - sand : sand;
        }

        /** Finds how early each STATE comes; a way there passes STATES at their own least TIMES only. */
        private void goForth() {
            Arrays.fill(early, FAR);
            Arrays.fill(turned, FAR);
            comeTo(0, 0, 0);
            for (int time = 0; time <= LATEST_WAIT; time++) {
                for (int k = 0; k < listedEvents && k < events.length; k++) {
                    if (earlyAt(events[k]) == time) {
                        goOnFrom(events[k], time);
                    }
                }
            }
        }

        private void goOnFrom(int state, int time) {
            int before = turnedAt(state);
            for (int choice = 0; choice < 1 << number; choice++) {
                int next = leapBy(state, choice);
                if (next != NONE) {
                    comeTo(next / MOMENTS, time + next % MOMENTS, before + Integer.bitCount(choice));
                }
            }
        }

        private void comeTo(int state, int time, int sum) {
            if (state < 0 || state >= early.length || state >= turned.length) {
                return;
            }
            if (time < early[state] || time == early[state] && sum < turned[state]) {
                early[state] = time;
                turned[state] = sum;
            }
        }

        private int earlyAt(int state) {
            return state >= 0 && state < early.length ? early[state] : FAR;
        }

        private int turnedAt(int state) {
            return state >= 0 && state < turned.length ? turned[state] : FAR;
        }

        private void lookAhead(int s) {
            for (int k = 0; k < listedEvents && k < events.length; k++) {
                int at = placeAhead(s, events[k]);
                if (at >= 0 && at < ahead.length) {
                    ahead[at] = s == 0 ? 0 : fewestTurned(events[k], s);
                }
            }
        }

        /** Where a span has its answer for a STATE; only the last few spans looked at have theirs still. */
        private int placeAhead(int s, int state) {
            return state * RING + s % RING;
        }

        private int aheadAt(int s, int state) {
            int at = placeAhead(s, state);
            return at >= 0 && at < ahead.length ? ahead[at] : FAR;
        }

        /** The fewest turned from a STATE on, so that an EVENT comes just s later; FAR: none can. */
        private int fewestTurned(int state, int s) {
            int least = FAR;
            for (int choice = 0; choice < 1 << number; choice++) {
                int next = leapBy(state, choice);
                if (next == NONE || next % MOMENTS > s) {
                    continue;
                }
                int then = aheadAt(s - next % MOMENTS, next / MOMENTS);
                if (then < FAR) {
                    least = Math.min(least, then + Integer.bitCount(choice));
                }
            }
            return least;
        }

        private void answer(int s) {
            int least = FAR;
            int sum = FAR;
            for (int k = 0; k < listedEvents && k < events.length; k++) {
                int then = aheadAt(s, events[k]);
                int time = earlyAt(events[k]);
                if (then == FAR || time > LATEST_WAIT || time > least) {
                    continue;
                }
                if (time < least) {
                    least = time;
                    sum = FAR;
                }
                sum = Math.min(sum, turnedAt(events[k]) + then);
            }
            if (s >= 0 && s <= MOST_WAITED_FOR) {
                waitOf[s] = least == FAR ? NONE : least;
                turnsOf[s] = least == FAR ? NONE : sum;
            }
        }
    }
}
