/**
 * A trunk room: calls between towns put through by hand on wires too few. The words in capitals are
 * those of ../shared/DOC.md, which tells what each method does.
 */
public final class TrunkRoom {
    public static final int NONE = -1, UNKNOWN = -100001, OUTSIDE = -100002, NOT = -100003, FULL = -100004;

    private static final int TOWNS = 8, WIRES = 16, OFFERS = 4, LINES = WIRES + OFFERS;
    private static final int SPANS = 30, CALLS = 40, TICKETS = 40, HOURS = 12, STARTS = 9;
    private static final int DAY = 480, ORDERS = 6, CLAUSES = 10, TEXT = 160;
    private static final int MOST_WIRES = 3, MOST_MILES = 300, MOST_LENGTH = 60, MOST_HANDS = 9;

    private static final int WAITING = 0, HELD = 1, TALKING = 2, ENDED = 3, CUT = 4, CANCELLED = 5;
    private static final int PLAIN = 0, FIRST = 1, FIXED = 2;

    private static final int NEXT = 0, WAYS = 1, HOLD = 2, GRACE = 3, TOLD = 4, CHARGE = 5, NIGHT = 6, BACK = 7,
            STRIKE = 8;
    private static final int KEY_FIXED = 0, KEY_FIRST = 1, KEY_BOOKED = 2, KEY_SHORT = 3, KEY_FAR = 4, KEYS = 5;

    private final Net net = new Net();
    private final Spans spans = new Spans();
    private final int[] crew = new int[TOWNS];
    private final Orders orders = new Orders();
    private final Rules rules = new Rules(orders);
    private final Reader reader = new Reader();
    private final Day day = new Day(net, spans, rules, crew);
    private final Clocks clockBook = new Clocks();
    private final Hours hours = new Hours();

    // what a SET of OFFERS leads to stays known until something is changed
    private final Day spare = new Day(net, spans, rules, crew);
    private final int[] waitedWith = new int[1 << OFFERS];
    private int setsKnown = 0;

    public TrunkRoom() {
        for (int t = 0; t < TOWNS; t++) {
            crew[t] = 3;
        }
    }

    // ---- wires, hands

    public int wire(int a, int b, int miles) {
        if (!isTown(a) || !isTown(b)) {
            return UNKNOWN;
        }
        if (a == b || !within(miles, 1, MOST_MILES)) {
            return OUTSIDE;
        }
        if (net.wires >= WIRES) {
            return FULL;
        }
        changed();
        net.join(net.wires, a, b, miles);
        net.wires++;
        day.there = net.wireSet();
        return net.wires - 1;
    }

    public int span(int w, int kind, int from, int to) {
        if (!isWire(w)) {
            return UNKNOWN;
        }
        if (!within(kind, 0, 2) || !within(from, 0, DAY - 1) || !within(to, from, DAY - 1)) {
            return OUTSIDE;
        }
        if (spans.size >= SPANS) {
            return FULL;
        }
        changed();
        spans.add(w, kind, from, to);
        return spans.size;
    }

    public int hands(int t, int h) {
        if (!isTown(t)) {
            return UNKNOWN;
        }
        if (!within(h, 0, MOST_HANDS)) {
            return OUTSIDE;
        }
        changed();
        int were = crew[t];
        crew[t] = h;
        return were;
    }

    public int about(int w, int what) {
        if (!isWire(w)) {
            return UNKNOWN;
        }
        switch (what) {
            case 0: return net.one[w];
            case 1: return net.two[w];
            case 2: return net.miles[w];
            case 3: return spans.why(w, day.now);
            case 4: return day.holderOf(w);
            case 5: return day.idle[w];
            case 6: return day.talked[w];
            default: return OUTSIDE;
        }
    }

    public int count(int what) {
        switch (what) {
            case 0: return day.now;
            case 1: return net.wires;
            case 2: return day.size;
            case 9: return day.rings;
            case 10: return orders.size;
            case 11: return clockBook.tickets;
            case 12: return net.offers;
            case 13: return reader.length;
            case 14: return day.waitedInAll();
            case 15: return day.chargesInAll();
            default: return within(what, 3, 8) ? day.howMany(what - 3) : OUTSIDE;
        }
    }

    // ---- calls

    public int book(int from, int to, int length, int kind, int minute) {
        if (!isTown(from) || !isTown(to)) {
            return UNKNOWN;
        }
        if (from == to || !within(length, 1, MOST_LENGTH) || !within(kind, PLAIN, FIXED)
                || kind == FIXED && !within(minute, day.now, DAY - 1)) {
            return OUTSIDE;
        }
        if (day.now >= DAY) {
            return NOT;
        }
        if (day.size >= CALLS) {
            return FULL;
        }
        return bookNow(from, to, length, kind, kind == FIXED ? minute : NONE);
    }

    private int bookNow(int from, int to, int length, int kind, int due) {
        changed();
        rules.look(day.now, 0);
        int wait = rules.told * day.waitingBetween(from, to) / (1 + net.joining(from, to));
        return day.add(from, to, length, kind, due, wait);
    }

    public int cancel(int c) {
        if (!isCall(c)) {
            return UNKNOWN;
        }
        if (!day.drop(c)) {
            return NOT;
        }
        changed();
        return 1;
    }

    public int again(int c) {
        if (!isCall(c)) {
            return UNKNOWN;
        }
        Call call = day.calls[c];
        if (call.state != CUT || call.bookedAgain || day.now >= DAY) {
            return NOT;
        }
        if (day.size >= CALLS) {
            return FULL;
        }
        call.bookedAgain = true;
        return bookNow(call.from, call.to, call.length - call.minutesTalked(), PLAIN, NONE);
    }

    public int told(int c, int what) {
        if (!isCall(c)) {
            return UNKNOWN;
        }
        Call call = day.calls[c];
        switch (what) {
            case 0: return call.from;
            case 1: return call.to;
            case 2: return call.length;
            case 3: return call.kind;
            case 4: return call.due;
            case 5: return call.booked;
            case 6: return call.state;
            case 7: return call.began;
            case 8: return call.over;
            case 9: return call.waited;
            case 10: return call.wait;
            case 11: return call.taken;
            case 12: return day.chargeOf(call);
            case 13: return call.way == Way.NO_WAY ? NONE : Way.milesOf(call.way);
            default: return OUTSIDE;
        }
    }

    public int way(int c, int i) {
        return isCall(c) ? Way.part(day.calls[c].way, i) : UNKNOWN;
    }

    public int ways(int a, int b, int n, int i, int j) {
        if (!isTown(a) || !isTown(b)) {
            return UNKNOWN;
        }
        if (a == b || !within(n, 1, MOST_WIRES)) {
            return OUTSIDE;
        }
        net.prepare(a, b);
        int way = net.nthWay(a, b, n, day.there, i);
        if (way == Way.NO_WAY) {
            return NONE;
        }
        return j == NONE ? Way.milesOf(way) : Way.part(way, j);
    }

    public int go(int n) {
        if (!within(n, 0, 200)) {
            return OUTSIDE;
        }
        if (day.now + n > DAY) {
            return NOT;
        }
        changed();
        day.prepareWays();
        int begun = 0;
        for (int i = 0; i < n; i++) {
            begun += day.nextMinute();
        }
        return begun;
    }

    public int wrong(int what) {
        switch (what) {
            case 0: return day.wrongInAll();
            case 1: return day.wrongAtMost();
            case 2: return day.howMany(TALKING) + day.howMany(ENDED) + day.howMany(CUT);
            default: return OUTSIDE;
        }
    }

    // ---- orders

    public int feed(int n, long bytes) {
        if (!within(n, 1, 8)) {
            return OUTSIDE;
        }
        if (reader.length + n > TEXT) {
            return FULL;
        }
        for (int i = n - 1; i >= 0; i--) {
            reader.append((int) (bytes >>> (8 * i)) & 255);
        }
        return reader.length;
    }

    public int order(int minute) {
        if (!within(minute, 0, DAY - 1)) {
            return OUTSIDE;
        }
        if (orders.size >= ORDERS) {
            return FULL;
        }
        if (!reader.readOrder(orders)) {
            return -10 - reader.fault;
        }
        changed();
        orders.minute[orders.size] = minute;
        orders.size++;
        return orders.size - 1;
    }

    public int fault() {
        return reader.place;
    }

    public int force(int minute, int what) {
        if (!within(minute, 0, DAY - 1)) {
            return OUTSIDE;
        }
        rules.look(minute, 0);
        if (within(what, 6, 5 + KEYS)) {
            return rules.keyAt(what - 6);
        }
        if (within(what, 21, 20 + MOST_WIRES * MOST_MILES)) {
            return rules.coinFor(what - 20);
        }
        switch (what) {
            case 0: return rules.most;
            case 1: return rules.hold;
            case 2: return rules.grace;
            case 3: return rules.told;
            case 4: return rules.back;
            case 5: return rules.keys;
            case 1000: return rules.nightAt(minute);
            default: return OUTSIDE;
        }
    }

    // ---- tickets, hours

    public int ticket(int a, int b, int x, int y) {
        if (!isTown(a) || !isTown(b)) {
            return UNKNOWN;
        }
        if (a == b || !within(x, 0, 9999) || !within(y, 0, 9999)) {
            return OUTSIDE;
        }
        if (clockBook.tickets >= TICKETS) {
            return FULL;
        }
        clockBook.add(a, b, y - x);
        return clockBook.tickets;
    }

    public int clocks(int a, int b, int what) {
        if (!isTown(a) || !isTown(b)) {
            return UNKNOWN;
        }
        if (!within(what, 0, 2)) {
            return OUTSIDE;
        }
        boolean joined = clockBook.areJoined(a, b);
        if (what == 2) {
            return clockBook.quarrel ? -2 : joined ? 1 : 0;
        }
        if (!joined || clockBook.quarrel) {
            return NOT;
        }
        return what == 0 ? -clockBook.below(b, a) : clockBook.below(a, b);
    }

    public int need(int hour, int h) {
        if (!within(hour, 0, HOURS - 1) || !within(h, 0, MOST_HANDS)) {
            return OUTSIDE;
        }
        int was = hours.needed[hour];
        hours.needed[hour] = h;
        return was;
    }

    public int shifts(int i) {
        if (!within(i, NONE, STARTS - 1)) {
            return OUTSIDE;
        }
        hours.findLeast();
        return i == NONE ? hours.inAll() : hours.begin[i];
    }

    // ---- beside, plans

    public int beside(int without, int offers, int what) {
        if (!within(without, 0, (1 << orders.size) - 1) || !within(offers, 0, (1 << net.offers) - 1)) {
            return UNKNOWN;
        }
        if (!within(what, 0, 4)) {
            return OUTSIDE;
        }
        spare.replay(day, without, net.wireSet() | offers << WIRES);
        switch (what) {
            case 0: return spare.waitedInAll();
            case 1: return spare.howMany(ENDED);
            case 2: return spare.howMany(CUT);
            case 3: return spare.chargesInAll();
            default: return spare.rings;
        }
    }

    public int offer(int a, int b, int miles, int coin) {
        if (!isTown(a) || !isTown(b)) {
            return UNKNOWN;
        }
        if (a == b || !within(miles, 1, MOST_MILES) || !within(coin, 0, 9999)) {
            return OUTSIDE;
        }
        if (net.offers >= OFFERS) {
            return FULL;
        }
        changed();
        net.join(WIRES + net.offers, a, b, miles);
        net.coin[net.offers] = coin;
        net.offers++;
        return net.offers - 1;
    }

    public int plan(int c, int what) {
        if (!within(c, 0, 99999) || !within(what, 0, 2)) {
            return OUTSIDE;
        }
        int best = 0;
        int bestCoin = 0;
        int bestWaited = waitedWithOffers(0);
        for (int set = 1; set < 1 << net.offers; set++) {
            int coin = net.coinOf(set);
            if (coin > c) {
                continue;
            }
            int waited = waitedWithOffers(set);
            if (waited < bestWaited || waited == bestWaited && coin < bestCoin) {
                best = set;
                bestCoin = coin;
                bestWaited = waited;
            }
        }
        return what == 0 ? best : what == 1 ? bestCoin : bestWaited;
    }

    private int waitedWithOffers(int set) {
        if (set < 0 || set >= waitedWith.length) {
            return 0;
        }
        if ((setsKnown >> set & 1) == 0) {
            spare.replay(day, 0, net.wireSet() | set << WIRES);
            waitedWith[set] = spare.waitedInAll();
            setsKnown |= 1 << set;
        }
        return waitedWith[set];
    }

    private void changed() {
        spare.replayed = false;
        setsKnown = 0;
    }

    private boolean isWire(int w) {
        return within(w, 0, net.wires - 1);
    }

    private boolean isCall(int c) {
        return within(c, 0, day.size - 1);
    }

    private static boolean isTown(int t) {
        return within(t, 0, TOWNS - 1);
    }

    private static boolean within(int x, int least, int most) {
        return x >= least && x <= most;
    }

    /**
     * A WAY is one number: how many WIRES, MILES in all, then the WIRES; so of two WAYS the lesser number
     * is the one that goes ahead.
     */
    private static final class Way {
        static final int NO_WAY = 0;
        private static final int COUNT = 25, MILES = 15, PART = 5, PART_MASK = 31, MILES_MASK = 1023;

        static int of(int wires, int miles, int first, int second, int third) {
            return wires << COUNT | miles << MILES | first << 2 * PART | second << PART | third;
        }

        // the least number that no WAY of at most so many WIRES has
        static int above(int wires) {
            return (wires + 1) << COUNT;
        }

        static int wiresOf(int way) {
            return way >>> COUNT;
        }

        static int milesOf(int way) {
            return way >>> MILES & MILES_MASK;
        }

        static int part(int way, int i) {
            return i < 0 || i >= way >>> COUNT ? NONE : way >>> (2 - i) * PART & PART_MASK;
        }

        static int setOf(int way) {
            int set = 0;
            for (int i = 0; i < MOST_WIRES; i++) {
                int w = part(way, i);
                if (w != NONE) {
                    set |= 1 << w;
                }
            }
            return set;
        }
    }

    /** The WIRES, and behind them in places of their own the OFFERS; with the WAYS by both. */
    private static final class Net {
        // no more WAYS of both directions than there can be: each line, two lines in a row, and three: of these any
        // line is the middle one, and the others part into those at its one end and those at its other one
        private static final int POOL = 2 * LINES + LINES * (LINES - 1) + 2 * LINES * ((LINES - 1) / 2) * (LINES / 2);

        final int[] one = new int[LINES];
        final int[] two = new int[LINES];
        final int[] miles = new int[LINES];
        final int[] coin = new int[OFFERS];
        int wires = 0;
        int offers = 0;

        // the WAYS from a TOWN to another one stand side by side, sorted, once they were asked for
        private final int[] pool = new int[POOL];
        private final int[] sets = new int[POOL];
        private int used = 0;
        private final int[] start = new int[TOWNS * TOWNS];
        private final int[] size = new int[TOWNS * TOWNS];

        Net() {
            for (int w = 0; w < LINES; w++) {
                one[w] = NONE;
                two[w] = NONE;
            }
            forgetWays();
        }

        void join(int line, int a, int b, int length) {
            if (line < 0 || line >= LINES) {
                return;
            }
            one[line] = a;
            two[line] = b;
            miles[line] = length;
            forgetWays();
        }

        private void forgetWays() {
            used = 0;
            for (int pair = 0; pair < size.length; pair++) {
                size[pair] = NONE;
            }
        }

        int wireSet() {
            return (1 << wires) - 1;
        }

        int joining(int a, int b) {
            int joins = 0;
            for (int w = 0; w < wires; w++) {
                if (farEnd(w, a) == b) {
                    joins++;
                }
            }
            return joins;
        }

        int coinOf(int set) {
            int sum = 0;
            for (int k = 0; k < offers; k++) {
                if ((set >> k & 1) != 0) {
                    sum += coin[k];
                }
            }
            return sum;
        }

        private int farEnd(int line, int town) {
            if (line < 0 || line >= LINES) {
                return NONE;
            }
            if (one[line] == town) {
                return two[line];
            }
            return two[line] == town ? one[line] : NONE;
        }

        private static int pairOf(int a, int b) {
            return a < 0 || a >= TOWNS || b < 0 || b >= TOWNS ? NONE : a * TOWNS + b;
        }

        /** Finds the WAYS from a to b, if that was not done since the net became what it is. */
        void prepare(int a, int b) {
            int pair = pairOf(a, b);
            if (pair == NONE || size[pair] != NONE) {
                return;
            }
            start[pair] = used;
            for (int w = 0; w < LINES; w++) {
                int x = farEnd(w, a);
                if (x == b) {
                    addWay(Way.of(1, miles[w], w, 0, 0));
                } else if (x != NONE) {
                    addLonger(a, b, w, x);
                }
            }
            size[pair] = used - start[pair];
            sortWays(start[pair]);
        }

        private void addLonger(int a, int b, int w, int x) {
            for (int v = 0; v < LINES; v++) {
                int y = farEnd(v, x);
                if (y == b) {
                    addWay(Way.of(2, miles[w] + miles[v], w, v, 0));
                } else if (y != NONE && y != a) {
                    addLongest(b, w, v, y);
                }
            }
        }

        private void addLongest(int b, int w, int v, int y) {
            for (int u = 0; u < LINES; u++) {
                if (farEnd(u, y) == b) {
                    addWay(Way.of(3, miles[w] + miles[v] + miles[u], w, v, u));
                }
            }
        }

        private void addWay(int way) {
            if (used < POOL) {
                pool[used] = way;
                used++;
            }
        }

        private void sortWays(int from) {
            for (int i = from; i < used; i++) {
                int way = pool[i];
                int k = i;
                while (k > from && pool[k - 1] > way) {
                    pool[k] = pool[k - 1];
                    k--;
                }
                pool[k] = way;
            }
            for (int i = from; i < used; i++) {
                sets[i] = Way.setOf(pool[i]);
            }
        }

        /** The first WAY by at most so many WIRES, all of them of a SET, the first one of another SET too. */
        int firstWay(int a, int b, int most, int set, int firsts) {
            int pair = pairOf(a, b);
            if (pair == NONE) {
                return Way.NO_WAY;
            }
            int above = Way.above(most);
            int end = start[pair] + size[pair];
            for (int k = start[pair]; k < end; k++) {
                if (pool[k] >= above) {
                    return Way.NO_WAY;
                }
                if ((sets[k] & ~set) == 0 && (firsts >> Way.part(pool[k], 0) & 1) != 0) {
                    return pool[k];
                }
            }
            return Way.NO_WAY;
        }

        int nthWay(int a, int b, int most, int set, int n) {
            int pair = pairOf(a, b);
            if (pair == NONE) {
                return Way.NO_WAY;
            }
            int left = n;
            int end = start[pair] + size[pair];
            for (int k = start[pair]; k < end && pool[k] < Way.above(most); k++) {
                if ((sets[k] & ~set) != 0) {
                    continue;
                }
                if (left == 0) {
                    return pool[k];
                }
                left--;
            }
            return Way.NO_WAY;
        }
    }

    /** The spans of MINUTES in which WIRES are not USABLE. */
    private static final class Spans {
        private final int[] wireOf = new int[SPANS];
        private final int[] kind = new int[SPANS];
        private final int[] from = new int[SPANS];
        private final int[] to = new int[SPANS];
        int size = 0;

        void add(int w, int why, int first, int last) {
            if (size >= SPANS) {
                return;
            }
            wireOf[size] = w;
            kind[size] = why;
            from[size] = first;
            to[size] = last;
            size++;
        }

        int unusable(int minute) {
            int set = 0;
            for (int s = 0; s < size; s++) {
                if (within(minute, from[s], to[s])) {
                    set |= 1 << wireOf[s];
                }
            }
            return set;
        }

        int why(int w, int minute) {
            for (int s = 0; s < size; s++) {
                if (wireOf[s] == w && within(minute, from[s], to[s])) {
                    return kind[s];
                }
            }
            return NONE;
        }
    }

    /** A CALL as it was booked, and how it fares in one course of the day. */
    private static final class Call {
        int from = 0;
        int to = 0;
        int length = 0;
        int kind = PLAIN;
        int due = NONE;
        int booked = 0;
        int wait = 0;
        int cancelled = NONE;
        boolean bookedAgain = false;

        int state = WAITING;
        int began = NONE;
        int over = NONE;
        int waited = 0;
        int way = Way.NO_WAY;
        int taken = 0;
        int has = 0;
        int tookLast = NONE;

        // good within one MINUTE alone
        long rank = 0;
        int first = Way.NO_WAY;
        Call waitsFor = null;

        void bookedFor(int townA, int townB, int minutes, int kindOf, int dueAt) {
            from = townA;
            to = townB;
            length = minutes;
            kind = kindOf;
            due = dueAt;
        }

        void startAnew() {
            state = WAITING;
            began = NONE;
            over = NONE;
            waited = 0;
            way = Way.NO_WAY;
            taken = 0;
            has = 0;
            tookLast = NONE;
        }

        boolean isOpen() {
            return state == WAITING || state == HELD;
        }

        boolean talksOrTalked() {
            return state == TALKING || state == ENDED || state == CUT;
        }

        int minutesTalked() {
            return state == CUT ? over - began : length;
        }

        int wrongBy() {
            return talksOrTalked() ? Math.abs(wait - waited) : 0;
        }

        // the WIRE that a HELD one takes next
        int wantedSet() {
            int w = Way.part(way, taken);
            return w == NONE ? 0 : 1 << w;
        }
    }

    /** One course of the day: the real one, or another one BESIDE it. */
    private static final class Day {
        private final Net net;
        private final Spans spans;
        private final Rules rules;
        private final int[] crew;

        final Call[] calls = new Call[CALLS];
        int size = 0;
        int now = 0;
        int rings = 0;
        final int[] idle = new int[LINES];
        final int[] talked = new int[LINES];

        // SETS of lines: those that there are, those USABLE in the MINUTE, those that CALLS have
        int there = 0;
        private int usable = 0;
        private int busy = 0;
        private int without = 0;
        // whether it is what a replay by these lines and ORDERS leads to
        boolean replayed = false;

        // good within one MINUTE alone
        private final int[] handsLeft = new int[TOWNS];
        private final Call[] row = new Call[CALLS];
        private int rowSize = 0;

        Day(Net netOf, Spans spansOf, Rules rulesOf, int[] crewOf) {
            net = netOf;
            spans = spansOf;
            rules = rulesOf;
            crew = crewOf;
            for (int c = 0; c < CALLS; c++) {
                calls[c] = new Call();
            }
        }

        // ---- what it answers

        int howMany(int state) {
            int many = 0;
            for (int c = 0; c < size; c++) {
                if (calls[c].state == state) {
                    many++;
                }
            }
            return many;
        }

        int waitedInAll() {
            int sum = 0;
            for (int c = 0; c < size; c++) {
                sum += calls[c].waited;
            }
            return sum;
        }

        int chargesInAll() {
            int sum = 0;
            for (int c = 0; c < size; c++) {
                sum += chargeOf(calls[c]);
            }
            return sum;
        }

        int chargeOf(Call call) {
            if (call.state != ENDED && call.state != CUT) {
                return 0;
            }
            rules.look(call.began, without);
            int threes = (call.minutesTalked() + 2) / 3;
            int coin = threes * rules.coinFor(Way.milesOf(call.way)) * rules.nightAt(call.began) / 100;
            if (call.kind == FIRST) {
                coin *= 2;
            }
            if (call.kind == FIXED && call.began > call.due + rules.grace) {
                coin /= 2;
            }
            return call.state == CUT ? coin - coin * rules.back / 100 : coin;
        }

        int wrongInAll() {
            int sum = 0;
            for (int c = 0; c < size; c++) {
                sum += calls[c].wrongBy();
            }
            return sum;
        }

        int wrongAtMost() {
            int most = 0;
            for (int c = 0; c < size; c++) {
                most = Math.max(most, calls[c].wrongBy());
            }
            return most;
        }

        int waitingBetween(int a, int b) {
            int many = 0;
            for (int c = 0; c < size; c++) {
                Call call = calls[c];
                boolean same = call.from == a && call.to == b || call.from == b && call.to == a;
                if (same && call.isOpen()) {
                    many++;
                }
            }
            return many;
        }

        int holderOf(int w) {
            for (int c = 0; c < size; c++) {
                if ((calls[c].has >> w & 1) != 0) {
                    return c;
                }
            }
            return NONE;
        }

        // ---- what is done at NOW

        int add(int from, int to, int length, int kind, int due, int wait) {
            if (size >= CALLS) {
                return NONE;
            }
            Call call = calls[size];
            call.bookedFor(from, to, length, kind, due);
            call.booked = now;
            call.wait = wait;
            size++;
            return size - 1;
        }

        boolean drop(int c) {
            if (c < 0 || c >= size || !calls[c].isOpen()) {
                return false;
            }
            letGo(calls[c]);
            calls[c].state = CANCELLED;
            calls[c].over = now;
            calls[c].cancelled = now;
            return true;
        }

        void prepareWays() {
            for (int c = 0; c < size; c++) {
                net.prepare(calls[c].from, calls[c].to);
            }
        }

        /** Does the MINUTES of another day again, by fewer ORDERS and by other lines. */
        void replay(Day real, int leftOut, int lines) {
            if (replayed && without == leftOut && there == lines) {
                return;
            }
            replayed = true;
            without = leftOut;
            there = lines;
            size = 0;
            now = 0;
            rings = 0;
            busy = 0;
            for (int minute = 0; minute < real.now; minute++) {
                takeOver(real);
                nextMinute();
            }
        }

        private void takeOver(Day real) {
            while (size < real.size && real.calls[size].booked == now) {
                Call from = real.calls[size];
                Call call = calls[size];
                call.bookedFor(from.from, from.to, from.length, from.kind, from.due);
                call.booked = from.booked;
                call.cancelled = from.cancelled;
                call.startAnew();
                net.prepare(call.from, call.to);
                size++;
            }
            for (int c = 0; c < size; c++) {
                if (calls[c].cancelled == now) {
                    drop(c);
                }
            }
        }

        // ---- a MINUTE

        int nextMinute() {
            rules.look(now, without);
            usable = there & ~spans.unusable(now);
            endAndCut();
            lineUp();
            breakRings();
            int begun = serve();
            tally();
            now++;
            return begun;
        }

        private void endAndCut() {
            for (int c = 0; c < size; c++) {
                Call call = calls[c];
                if (call.state == TALKING && now - call.began >= call.length) {
                    hangUp(call, ENDED);
                } else if ((call.has & ~usable) != 0) {
                    if (call.state == TALKING) {
                        hangUp(call, CUT);
                    } else {
                        letGo(call);
                    }
                }
            }
        }

        private void hangUp(Call call, int state) {
            busy &= ~call.has;
            call.has = 0;
            call.state = state;
            call.over = now;
        }

        private void letGo(Call call) {
            busy &= ~call.has;
            call.has = 0;
            call.taken = 0;
            call.way = Way.NO_WAY;
            call.state = WAITING;
        }

        // puts the CALLS that want to be served into a row by next
        private void lineUp() {
            rowSize = 0;
            for (int c = 0; c < size; c++) {
                Call call = calls[c];
                if (!call.isOpen() || call.due > now) {
                    continue;
                }
                call.first = net.firstWay(call.from, call.to, rules.most, there, there);
                call.rank = rules.rankOf(call) * CALLS + c;
                int k = rowSize;
                while (k > 0 && row[k - 1].rank > call.rank) {
                    row[k] = row[k - 1];
                    k--;
                }
                row[k] = call;
                rowSize++;
            }
        }

        private void breakRings() {
            // each time round a CALL loses its WIRES, so there are no more rounds than CALLS
            for (int round = 0; round < CALLS; round++) {
                if (!seeWhoWaits()) {
                    return;
                }
                Call last = lastInRings();
                if (last == null) {
                    return;
                }
                letGo(last);
                rings++;
            }
        }

        private boolean seeWhoWaits() {
            boolean any = false;
            for (int k = 0; k < rowSize; k++) {
                row[k].waitsFor = heldWith(row[k].state == HELD ? row[k].wantedSet() : 0);
                any |= row[k].waitsFor != null;
            }
            return any;
        }

        private Call heldWith(int set) {
            if ((set & busy) == 0) {
                return null;
            }
            for (int k = 0; k < rowSize; k++) {
                if ((row[k].has & set) != 0) {
                    return row[k];
                }
            }
            return null;
        }

        private Call lastInRings() {
            for (int k = rowSize - 1; k >= 0; k--) {
                if (isInRing(row[k])) {
                    return row[k];
                }
            }
            return null;
        }

        private boolean isInRing(Call call) {
            Call next = call.waitsFor;
            for (int step = 0; step < CALLS && next != null; step++) {
                if (next == call) {
                    return true;
                }
                next = next.waitsFor;
            }
            return false;
        }

        private int serve() {
            System.arraycopy(crew, 0, handsLeft, 0, TOWNS);
            int begun = 0;
            for (int k = 0; k < rowSize; k++) {
                Call call = row[k];
                if (handsLeft[call.from] <= 0) {
                    continue;
                }
                boolean took = call.state == HELD ? goOn(call) : begin(call);
                if (took) {
                    handsLeft[call.from]--;
                }
                if (call.state == TALKING) {
                    begun++;
                }
            }
            return begun;
        }

        private boolean begin(Call call) {
            int free = usable & ~busy;
            int way = net.firstWay(call.from, call.to, rules.most, free, free);
            if (way == Way.NO_WAY && rules.hold > 0) {
                way = net.firstWay(call.from, call.to, rules.most, usable, free);
            }
            if (way == Way.NO_WAY) {
                return false;
            }
            call.way = way;
            takeWires(call);
            return true;
        }

        private boolean goOn(Call call) {
            if ((call.wantedSet() & usable & ~busy) != 0) {
                takeWires(call);
                return true;
            }
            if (now - call.tookLast >= rules.hold) {
                letGo(call);
            }
            return false;
        }

        private void takeWires(Call call) {
            int wires = Way.wiresOf(call.way);
            int free = usable & ~busy;
            while (call.taken < wires && (free >> Way.part(call.way, call.taken) & 1) != 0) {
                call.has |= 1 << Way.part(call.way, call.taken);
                call.taken++;
            }
            busy |= call.has;
            call.tookLast = now;
            call.state = HELD;
            if (call.taken == wires) {
                call.state = TALKING;
                call.began = now;
            }
        }

        private void tally() {
            int wanted = 0;
            for (int k = 0; k < rowSize; k++) {
                if (row[k].isOpen()) {
                    row[k].waited++;
                    wanted |= Way.setOf(row[k].first);
                }
            }
            int talking = 0;
            for (int c = 0; c < size; c++) {
                if (calls[c].state == TALKING) {
                    talking |= calls[c].has;
                }
            }
            int idling = wanted & usable & ~busy;
            for (int w = 0; w < LINES; w++) {
                idle[w] += idling >> w & 1;
                talked[w] += talking >> w & 1;
            }
        }
    }

    /** The ORDERS; clause k of ORDER n stands at n * CLAUSES + k. */
    private static final class Orders {
        final int[] minute = new int[ORDERS];
        final int[] clauses = new int[ORDERS];
        final int[] kind = new int[ORDERS * CLAUSES];
        // the NUMBERS of a clause; of 'next': how many keys, and the keys by three bits each
        final int[] first = new int[ORDERS * CLAUSES];
        final int[] second = new int[ORDERS * CLAUSES];
        final int[] third = new int[ORDERS * CLAUSES];
        int size = 0;

        int since(int minuteOf) {
            int set = 0;
            for (int n = 0; n < size; n++) {
                if (minute[n] <= minuteOf) {
                    set |= 1 << n;
                }
            }
            return set;
        }

        int struckBy(int n) {
            int set = 0;
            if (n < 0 || n >= size) {
                return set;
            }
            for (int k = 0; k < clauses[n]; k++) {
                if (kind[n * CLAUSES + k] == STRIKE) {
                    set |= 1 << first[n * CLAUSES + k];
                }
            }
            return set;
        }
    }

    /** Reads THE TEXT as an ORDER. */
    private static final class Reader {
        // each word in six places
        private static final int WIDTH = 6;
        private static final String STARTS_OF_CLAUSES = "next  ways  hold  grace told  chargenight back  strike";
        private static final String KEY_WORDS = "fixed first bookedshort far   ";
        private static final String TO = "to    ", BY = "by    ";
        private static final int CANNOT_STAND = 1, BAD_NUMBER = 2, NO_ORDER = 3, KEY_TWICE = 4, TOO_MANY = 5;

        private final int[] text = new int[TEXT];
        int length = 0;
        int fault = 0;
        int place = NONE;
        private int at = 0;

        void append(int sign) {
            if (length < TEXT) {
                text[length] = sign;
                length++;
            }
        }

        /** Puts the clauses behind the ORDERS that there are; false, if there is a FAULT. THE TEXT is empty then. */
        boolean readOrder(Orders orders) {
            fault = 0;
            place = NONE;
            at = 0;
            int clauses = 0;
            // an eleventh clause is a FAULT and ends it
            while (clauses <= CLAUSES && fault == 0 && !isAtEnd()) {
                readClause(orders, clauses);
                clauses++;
            }
            length = 0;
            if (fault == 0 && orders.size < ORDERS) {
                orders.clauses[orders.size] = clauses;
            }
            return fault == 0;
        }

        private boolean isAtEnd() {
            skipBlanks();
            return at >= length;
        }

        private void readClause(Orders orders, int number) {
            skipBlanks();
            int start = at;
            int kind = readWord(STARTS_OF_CLAUSES);
            if (kind == NONE) {
                return;
            }
            if (number >= CLAUSES || orders.size >= ORDERS) {
                fails(TOO_MANY, start);
                return;
            }
            int slot = orders.size * CLAUSES + number;
            orders.kind[slot] = kind;
            if (kind == NEXT) {
                readKeys(orders, slot);
            } else {
                readNumbers(orders, slot, kind);
            }
            readSign(';');
        }

        private void readKeys(Orders orders, int slot) {
            int seen = 0;
            int packed = 0;
            int many = 0;
            boolean more = true;
            // a sixth key would be one again
            while (more && many < KEYS + 1) {
                skipBlanks();
                int start = at;
                int key = readWord(KEY_WORDS);
                if (key == NONE) {
                    return;
                }
                if ((seen >> key & 1) != 0) {
                    fails(KEY_TWICE, start);
                    return;
                }
                seen |= 1 << key;
                packed |= key << 3 * many;
                many++;
                more = skipSign(',');
            }
            orders.first[slot] = many;
            orders.second[slot] = packed;
        }

        private void readNumbers(Orders orders, int slot, int kind) {
            switch (kind) {
                case WAYS: orders.first[slot] = readNumber(1, 3); break;
                case HOLD: orders.first[slot] = readNumber(0, 60); break;
                case GRACE: orders.first[slot] = readNumber(0, 60); break;
                case TOLD: orders.first[slot] = readNumber(0, 99); break;
                case BACK: orders.first[slot] = readNumber(0, 100); break;
                case CHARGE:
                    orders.first[slot] = readNumber(0, 999);
                    readWord(TO);
                    orders.second[slot] = readNumber(1, 999);
                    break;
                case NIGHT:
                    orders.first[slot] = readNumber(0, DAY - 1);
                    readWord(TO);
                    orders.second[slot] = readNumber(orders.first[slot], DAY - 1);
                    readWord(BY);
                    orders.third[slot] = readNumber(0, 100);
                    break;
                default: orders.first[slot] = readStruck(orders.size); break;
            }
        }

        private int readStruck(int ordersNow) {
            skipBlanks();
            int start = at;
            int n = readNumber(0, 9999);
            if (fault == 0 && n >= ordersNow) {
                fails(NO_ORDER, start);
            }
            return n;
        }

        private int readNumber(int least, int most) {
            skipBlanks();
            int start = at;
            int value = 0;
            while (at < length && within(text[at], '0', '9')) {
                // five figures are too many already, and what comes behind them does not matter
                if (at - start < 5) {
                    value = value * 10 + text[at] - '0';
                }
                at++;
            }
            if (at == start) {
                fails(CANNOT_STAND, start);
            } else if (at - start > 4 || !within(value, least, most)) {
                fails(BAD_NUMBER, start);
            }
            return value;
        }

        // which word of a row of words; NONE: none of them
        private int readWord(String words) {
            skipBlanks();
            int start = at;
            while (at < length && within(text[at], 'a', 'z')) {
                at++;
            }
            int many = words.length() / WIDTH;
            for (int k = 0; k < many; k++) {
                if (isWord(start, at - start, words, k * WIDTH)) {
                    return k;
                }
            }
            fails(CANNOT_STAND, start);
            return NONE;
        }

        private boolean isWord(int start, int letters, String words, int from) {
            if (letters > WIDTH) {
                return false;
            }
            for (int i = 0; i < WIDTH; i++) {
                int sign = i < letters && start + i < TEXT ? text[start + i] : ' ';
                if (from + i >= words.length() || words.charAt(from + i) != sign) {
                    return false;
                }
            }
            return true;
        }

        private void readSign(int sign) {
            if (!skipSign(sign)) {
                fails(CANNOT_STAND, at);
            }
        }

        private boolean skipSign(int sign) {
            skipBlanks();
            boolean found = at < length && text[at] == sign;
            if (found) {
                at++;
            }
            return found;
        }

        private void skipBlanks() {
            while (at < length && text[at] == ' ') {
                at++;
            }
        }

        // the first FAULT found counts: the text is read from its first byte on
        private void fails(int number, int byteAt) {
            if (fault == 0) {
                fault = number;
                place = byteAt;
            }
        }
    }

    /** What holds in a MINUTE, by the ORDERS that count in it. */
    private static final class Rules {
        private final Orders orders;

        // it is the same as long as the ORDERS looked at are the same
        private int looked = NONE;
        private final int[] row = new int[ORDERS];
        private int rows = 0;

        int most = 0;
        int hold = 0;
        int grace = 0;
        int told = 0;
        int back = 0;
        int keys = 0;
        private final int[] key = new int[KEYS];

        Rules(Orders ordersOf) {
            orders = ordersOf;
        }

        void look(int minute, int without) {
            int set = orders.since(minute) & ~without;
            if (set == looked) {
                return;
            }
            looked = set;
            lineUp(counting(set));
            setAsAtFirst();
            for (int i = 0; i < rows; i++) {
                int from = row[i] * CLAUSES;
                for (int k = 0; k < orders.clauses[row[i]]; k++) {
                    apply(from + k);
                }
            }
        }

        private int counting(int set) {
            int counts = 0;
            int struck = 0;
            for (int n = orders.size - 1; n >= 0; n--) {
                if (((set & ~struck) >> n & 1) != 0) {
                    counts |= 1 << n;
                    struck |= orders.struckBy(n);
                }
            }
            return counts;
        }

        private void lineUp(int set) {
            rows = 0;
            for (int n = 0; n < orders.size; n++) {
                if ((set >> n & 1) == 0) {
                    continue;
                }
                int k = rows;
                while (k > 0 && orders.minute[row[k - 1]] > orders.minute[n]) {
                    row[k] = row[k - 1];
                    k--;
                }
                row[k] = n;
                rows++;
            }
        }

        private void setAsAtFirst() {
            most = 2;
            hold = 0;
            grace = 5;
            told = 6;
            back = 50;
            keys = 3;
            key[0] = KEY_FIXED;
            key[1] = KEY_FIRST;
            key[2] = KEY_BOOKED;
        }

        private void apply(int slot) {
            int number = orders.first[slot];
            switch (orders.kind[slot]) {
                case NEXT: applyKeys(number, orders.second[slot]); break;
                case WAYS: most = number; break;
                case HOLD: hold = number; break;
                case GRACE: grace = number; break;
                case TOLD: told = number; break;
                case BACK: back = number; break;
                default: break;
            }
        }

        private void applyKeys(int many, int packed) {
            keys = Math.min(many, KEYS);
            for (int k = 0; k < keys; k++) {
                key[k] = packed >> 3 * k & 7;
            }
        }

        int keyAt(int k) {
            return k < 0 || k >= keys ? NONE : key[k];
        }

        int coinFor(int miles) {
            int coin = 10;
            int fewest = 1000;
            for (int i = 0; i < rows; i++) {
                int from = row[i] * CLAUSES;
                for (int slot = from; slot < from + orders.clauses[row[i]]; slot++) {
                    int to = orders.second[slot];
                    if (orders.kind[slot] == CHARGE && to >= miles && to <= fewest) {
                        fewest = to;
                        coin = orders.first[slot];
                    }
                }
            }
            return coin;
        }

        int nightAt(int minute) {
            int hundredths = 100;
            for (int i = 0; i < rows; i++) {
                int from = row[i] * CLAUSES;
                for (int slot = from; slot < from + orders.clauses[row[i]]; slot++) {
                    if (orders.kind[slot] == NIGHT && within(minute, orders.first[slot], orders.second[slot])) {
                        hundredths = orders.third[slot];
                    }
                }
            }
            return hundredths;
        }

        /** The keys of a CALL as one number: the lesser is the next. */
        long rankOf(Call call) {
            long rank = 0;
            for (int k = 0; k < keys; k++) {
                rank = rank * 1024 + valueOf(key[k], call);
            }
            return rank;
        }

        private static int valueOf(int keyOf, Call call) {
            switch (keyOf) {
                case KEY_FIXED: return call.kind == FIXED ? 0 : 1;
                case KEY_FIRST: return call.kind == FIRST ? 0 : 1;
                case KEY_BOOKED: return call.booked;
                case KEY_SHORT: return call.length;
                default: return 1023 - Way.milesOf(call.first);
            }
        }
    }

    /** How far the clocks of TOWNS go ahead of one another, by TICKETS. */
    private static final class Clocks {
        private static final int NO_BOUND = 1000000000;

        int tickets = 0;
        boolean quarrel = false;
        // at a * TOWNS + b: what the clock of b less that of a is sure to be below
        private final int[] bound = new int[TOWNS * TOWNS];

        Clocks() {
            for (int k = 0; k < bound.length; k++) {
                bound[k] = NO_BOUND;
            }
        }

        void add(int a, int b, int ahead) {
            tickets++;
            if (quarrel) {
                return;
            }
            tighten(a, b, ahead + 1);
            tighten(b, a, 1 - ahead);
            for (int k = 0; k < TOWNS && !quarrel; k++) {
                goOver(k);
            }
        }

        private void tighten(int a, int b, int below) {
            int pair = a * TOWNS + b;
            if (pair >= 0 && pair < bound.length) {
                bound[pair] = Math.min(bound[pair], below);
            }
        }

        private void goOver(int k) {
            for (int a = 0; a < TOWNS; a++) {
                for (int b = 0; b < TOWNS; b++) {
                    int toK = bound[a * TOWNS + k];
                    int fromK = bound[k * TOWNS + b];
                    if (toK < NO_BOUND && fromK < NO_BOUND) {
                        tighten(a, b, toK + fromK);
                    }
                }
            }
            // a clock would have to be behind itself
            for (int a = 0; a < TOWNS; a++) {
                quarrel |= bound[a * TOWNS + a] <= 0;
            }
        }

        boolean areJoined(int a, int b) {
            return a == b || below(a, b) < NO_BOUND;
        }

        int below(int a, int b) {
            int pair = a * TOWNS + b;
            if (a == b || pair < 0 || pair >= bound.length) {
                return 1;
            }
            return bound[pair];
        }
    }

    /** HANDS by hours, in SHIFTS of four hours. */
    private static final class Hours {
        final int[] needed = new int[HOURS];
        final int[] begin = new int[STARTS];

        /** Begins each SHIFT as late as it can be: that takes the fewest, and the fewest early ones. */
        void findLeast() {
            for (int i = 0; i < STARTS; i++) {
                begin[i] = 0;
            }
            for (int hour = 0; hour < HOURS; hour++) {
                int lacking = needed[hour] - onDuty(hour);
                if (lacking > 0) {
                    begin[Math.min(hour, STARTS - 1)] += lacking;
                }
            }
        }

        private int onDuty(int hour) {
            int many = 0;
            for (int i = Math.max(0, hour - 3); i <= hour && i < STARTS; i++) {
                many += begin[i];
            }
            return many;
        }

        int inAll() {
            int sum = 0;
            for (int i = 0; i < STARTS; i++) {
                sum += begin[i];
            }
            return sum;
        }
    }
}
