import java.util.ArrayList;
import java.util.Arrays;
import java.util.Comparator;
import java.util.HashSet;
import java.util.List;
import java.util.Set;

/**
 * The document once more, as plainly as can be and without a thought for speed: every list is built anew
 * and every WAY searched again whenever it is asked for. The tests hold TrunkRoom against it.
 */
final class RoomModel {
    static final int NONE = -1, UNKNOWN = -100001, OUTSIDE = -100002, NOT = -100003, FULL = -100004;

    record Wire(int number, int a, int b, int miles) {
        int over(int town) {
            return town == a ? b : town == b ? a : NONE;
        }
    }

    record Span(int wire, int kind, int from, int to) { }

    record Offer(int a, int b, int miles, int coin) { }

    record Order(int minute, List<Clause> clauses) { }

    record Clause(String word, List<String> keys, int[] n) { }

    static final class Phone {
        int number, from, to, length, kind, due = NONE, booked, told, cancelledAt = NONE;
        boolean again;
        int state, began = NONE, over = NONE, waited, last;
        List<Wire> way = new ArrayList<>();
        List<Wire> has = new ArrayList<>();

        Phone copy() {
            Phone p = new Phone();
            p.number = number; p.from = from; p.to = to; p.length = length; p.kind = kind; p.due = due;
            p.booked = booked; p.cancelledAt = cancelledAt;
            return p;
        }

        boolean open() {
            return state == 0 || state == 1;
        }

        boolean openAt(int minute) {
            return open() && (kind != 2 || minute >= due);
        }

        void release() {
            has = new ArrayList<>();
            way = new ArrayList<>();
            state = 0;
        }
    }

    /** A course of the day. */
    final class Course {
        List<Phone> phones = new ArrayList<>();
        List<Wire> net = new ArrayList<>();
        int now, rings, without;
        int[] idle = new int[64], talked = new int[64];
    }

    int[] hands = {3, 3, 3, 3, 3, 3, 3, 3};
    List<Span> spans = new ArrayList<>();
    List<Order> orders = new ArrayList<>();
    List<Offer> offers = new ArrayList<>();
    List<int[]> tickets = new ArrayList<>();
    int[] needs = new int[12];
    List<Integer> text = new ArrayList<>();
    int faultAt = NONE;
    Course real = new Course();

    // ---- small helpers

    static boolean in(int x, int least, int most) {
        return least <= x && x <= most;
    }

    static boolean towns(int a, int b) {
        return in(a, 0, 7) && in(b, 0, 7);
    }

    static int miles(List<Wire> way) {
        return way.stream().mapToInt(Wire::miles).sum();
    }

    static int byWay(List<Wire> x, List<Wire> y) {
        if (x.size() != y.size()) {
            return x.size() - y.size();
        }
        if (miles(x) != miles(y)) {
            return miles(x) - miles(y);
        }
        for (int i = 0; i < x.size(); i++) {
            if (x.get(i).number() != y.get(i).number()) {
                return x.get(i).number() - y.get(i).number();
            }
        }
        return 0;
    }

    List<List<Wire>> allWays(List<Wire> net, int from, int to, int most) {
        List<List<Wire>> found = new ArrayList<>();
        search(net, from, to, most, new ArrayList<>(), new HashSet<>(Set.of(from)), found);
        found.sort(RoomModel::byWay);
        return found;
    }

    private void search(List<Wire> net, int at, int to, int most, List<Wire> sofar, Set<Integer> seen,
            List<List<Wire>> found) {
        if (at == to) {
            found.add(new ArrayList<>(sofar));
            return;
        }
        if (sofar.size() == most) {
            return;
        }
        for (Wire w : net) {
            int next = w.over(at);
            if (next != NONE && !seen.contains(next)) {
                sofar.add(w);
                seen.add(next);
                search(net, next, to, most, sofar, seen, found);
                seen.remove(next);
                sofar.remove(sofar.size() - 1);
            }
        }
    }

    // ---- orders

    List<Clause> holding(int minute, int without) {
        List<Integer> counts = new ArrayList<>();
        Set<Integer> struck = new HashSet<>();
        for (int n = orders.size() - 1; n >= 0; n--) {
            if ((without >> n & 1) == 1 || orders.get(n).minute() > minute || struck.contains(n)) {
                continue;
            }
            counts.add(n);
            for (Clause c : orders.get(n).clauses()) {
                if (c.word().equals("strike")) {
                    struck.add(c.n()[0]);
                }
            }
        }
        counts.sort(Comparator.<Integer>comparingInt(n -> orders.get(n).minute()).thenComparingInt(n -> n));
        List<Clause> all = new ArrayList<>();
        for (int n : counts) {
            all.addAll(orders.get(n).clauses());
        }
        return all;
    }

    int value(String word, int atFirst, int minute, int without) {
        int v = atFirst;
        for (Clause c : holding(minute, without)) {
            if (c.word().equals(word)) {
                v = c.n()[0];
            }
        }
        return v;
    }

    List<String> keys(int minute, int without) {
        List<String> keys = List.of("fixed", "first", "booked");
        for (Clause c : holding(minute, without)) {
            if (c.word().equals("next")) {
                keys = c.keys();
            }
        }
        return keys;
    }

    int coin(int miles, int minute, int without) {
        Clause best = null;
        for (Clause c : holding(minute, without)) {
            if (c.word().equals("charge") && miles <= c.n()[1] && (best == null || c.n()[1] <= best.n()[1])) {
                best = c;
            }
        }
        return best == null ? 10 : best.n()[0];
    }

    int night(int minute, int without) {
        int by = 100;
        for (Clause c : holding(minute, without)) {
            if (c.word().equals("night") && in(minute, c.n()[0], c.n()[1])) {
                by = c.n()[2];
            }
        }
        return by;
    }

    int maxWires(Course day, int minute) {
        return value("ways", 2, minute, day.without);
    }

    // ---- the minute

    boolean usable(Wire w, int minute) {
        for (Span s : spans) {
            if (s.wire() == w.number() && in(minute, s.from(), s.to())) {
                return false;
            }
        }
        return true;
    }

    Phone holder(Course day, Wire w) {
        for (Phone p : day.phones) {
            if (p.has.contains(w)) {
                return p;
            }
        }
        return null;
    }

    boolean free(Course day, Wire w) {
        return usable(w, day.now) && holder(day, w) == null;
    }

    List<Wire> firstWay(Course day, Phone p) {
        List<List<Wire>> all = allWays(day.net, p.from, p.to, maxWires(day, day.now));
        return all.isEmpty() ? List.of() : all.get(0);
    }

    /** Below 0: x is before y. */
    int byNext(Course day, Phone x, Phone y) {
        for (String key : keys(day.now, day.without)) {
            int d = switch (key) {
                case "fixed" -> (y.kind == 2 ? 1 : 0) - (x.kind == 2 ? 1 : 0);
                case "first" -> (y.kind == 1 ? 1 : 0) - (x.kind == 1 ? 1 : 0);
                case "booked" -> x.booked - y.booked;
                case "short" -> x.length - y.length;
                case "far" -> miles(firstWay(day, y)) - miles(firstWay(day, x));
                default -> throw new IllegalStateException(key);
            };
            if (d != 0) {
                return d;
            }
        }
        return x.number - y.number;
    }

    Phone waitsFor(Course day, Phone p) {
        if (p == null || p.state != 1) {
            return null;
        }
        Phone other = holder(day, p.way.get(p.has.size()));
        return other != null && other.state == 1 ? other : null;
    }

    boolean inRing(Course day, Phone p) {
        Set<Phone> seen = new HashSet<>();
        for (Phone q = waitsFor(day, p); q != null && seen.add(q); q = waitsFor(day, q)) {
            if (q == p) {
                return true;
            }
        }
        return false;
    }

    int minute(Course day) {
        int m = day.now;
        for (Phone p : day.phones) {
            if (p.state == 2 && p.began + p.length == m) {
                p.state = 3;
                p.over = m;
                p.has = new ArrayList<>();
            }
        }
        for (Phone p : day.phones) {
            boolean hurt = p.has.stream().anyMatch(w -> !usable(w, m));
            if (hurt && p.state == 2) {
                p.state = 4;
                p.over = m;
                p.has = new ArrayList<>();
            } else if (hurt) {
                p.release();
            }
        }
        while (true) {
            List<Phone> rings = new ArrayList<>();
            for (Phone p : day.phones) {
                if (inRing(day, p)) {
                    rings.add(p);
                }
            }
            if (rings.isEmpty()) {
                break;
            }
            rings.sort((x, y) -> byNext(day, x, y));
            rings.get(rings.size() - 1).release();
            day.rings++;
        }
        int begun = fourth(day);
        fifth(day);
        day.now++;
        return begun;
    }

    private int fourth(Course day) {
        List<Phone> row = new ArrayList<>();
        for (Phone p : day.phones) {
            if (p.openAt(day.now)) {
                row.add(p);
            }
        }
        row.sort((x, y) -> byNext(day, x, y));
        int hold = value("hold", 0, day.now, day.without);
        int[] left = hands.clone();
        int begun = 0;
        for (Phone p : row) {
            if (left[p.from] == 0) {
                continue;
            }
            int had = p.has.size();
            if (p.state == 0) {
                p.way = choose(day, p, hold);
            }
            boolean was = p.state == 1;
            while (p.has.size() < p.way.size() && free(day, p.way.get(p.has.size()))) {
                p.has.add(p.way.get(p.has.size()));
            }
            if (p.has.size() > had) {
                left[p.from]--;
                p.last = day.now;
                p.state = 1;
                if (p.has.size() == p.way.size()) {
                    p.state = 2;
                    p.began = day.now;
                    begun++;
                }
            } else if (was && day.now - p.last >= hold) {
                p.release();
            }
        }
        return begun;
    }

    private List<Wire> choose(Course day, Phone p, int hold) {
        List<List<Wire>> all = allWays(day.net, p.from, p.to, maxWires(day, day.now));
        for (List<Wire> way : all) {
            if (way.stream().allMatch(w -> free(day, w))) {
                return way;
            }
        }
        for (List<Wire> way : all) {
            if (hold > 0 && way.stream().allMatch(w -> usable(w, day.now)) && free(day, way.get(0))) {
                return way;
            }
        }
        return new ArrayList<>();
    }

    private void fifth(Course day) {
        Set<Wire> wanted = new HashSet<>();
        for (Phone p : day.phones) {
            if (p.openAt(day.now)) {
                p.waited++;
                wanted.addAll(firstWay(day, p));
            }
            if (p.state == 2) {
                p.has.forEach(w -> day.talked[w.number()]++);
            }
        }
        for (Wire w : wanted) {
            if (free(day, w)) {
                day.idle[w.number()]++;
            }
        }
    }

    int charge(Course day, Phone p) {
        if (p.state != 3 && p.state != 4) {
            return 0;
        }
        int minutes = p.state == 3 ? p.length : p.over - p.began;
        int threes = minutes / 3 + (minutes % 3 == 0 ? 0 : 1);
        int coin = threes * coin(miles(p.way), p.began, day.without) * night(p.began, day.without) / 100;
        if (p.kind == 1) {
            coin = coin + coin;
        }
        if (p.kind == 2 && p.began - p.due > value("grace", 5, p.began, day.without)) {
            coin = coin / 2;
        }
        if (p.state == 4) {
            coin -= coin * value("back", 50, p.began, day.without) / 100;
        }
        return coin;
    }

    Course besideCourse(int without, int set) {
        Course day = new Course();
        day.without = without;
        day.net.addAll(real.net);
        for (int k = 0; k < offers.size(); k++) {
            if ((set >> k & 1) == 1) {
                Offer o = offers.get(k);
                day.net.add(new Wire(day.net.size(), o.a(), o.b(), o.miles()));
            }
        }
        while (day.now < real.now) {
            for (Phone p : real.phones) {
                if (p.booked == day.now) {
                    day.phones.add(p.copy());
                }
            }
            for (Phone p : day.phones) {
                if (p.cancelledAt == day.now && p.open()) {
                    p.release();
                    p.state = 5;
                }
            }
            // a wire added behind the spans' last number can have no span
            minute(day);
        }
        return day;
    }

    static int waited(Course day) {
        return day.phones.stream().mapToInt(p -> p.waited).sum();
    }

    static int inState(Course day, int state) {
        return (int) day.phones.stream().filter(p -> p.state == state).count();
    }

    int charges(Course day) {
        return day.phones.stream().mapToInt(p -> charge(day, p)).sum();
    }

    // ---- the face

    int wire(int a, int b, int miles) {
        if (!towns(a, b)) return UNKNOWN;
        if (a == b || !in(miles, 1, 300)) return OUTSIDE;
        if (real.net.size() == 16) return FULL;
        real.net.add(new Wire(real.net.size(), a, b, miles));
        return real.net.size() - 1;
    }

    int span(int w, int kind, int from, int to) {
        if (!in(w, 0, real.net.size() - 1)) return UNKNOWN;
        if (!in(kind, 0, 2) || !in(from, 0, 479) || !in(to, 0, 479) || to < from) return OUTSIDE;
        if (spans.size() == 30) return FULL;
        spans.add(new Span(w, kind, from, to));
        return spans.size();
    }

    int hands(int t, int h) {
        if (!in(t, 0, 7)) return UNKNOWN;
        if (!in(h, 0, 9)) return OUTSIDE;
        int were = hands[t];
        hands[t] = h;
        return were;
    }

    int about(int w, int what) {
        if (!in(w, 0, real.net.size() - 1)) return UNKNOWN;
        Wire wire = real.net.get(w);
        switch (what) {
            case 0: return wire.a();
            case 1: return wire.b();
            case 2: return wire.miles();
            case 3:
                for (Span s : spans) {
                    if (s.wire() == w && in(real.now, s.from(), s.to())) return s.kind();
                }
                return NONE;
            case 4: return holder(real, wire) == null ? NONE : holder(real, wire).number;
            case 5: return real.idle[w];
            case 6: return real.talked[w];
            default: return OUTSIDE;
        }
    }

    int count(int what) {
        if (in(what, 3, 8)) return inState(real, what - 3);
        switch (what) {
            case 0: return real.now;
            case 1: return real.net.size();
            case 2: return real.phones.size();
            case 9: return real.rings;
            case 10: return orders.size();
            case 11: return tickets.size();
            case 12: return offers.size();
            case 13: return text.size();
            case 14: return waited(real);
            case 15: return charges(real);
            default: return OUTSIDE;
        }
    }

    int book(int from, int to, int length, int kind, int minute) {
        if (!towns(from, to)) return UNKNOWN;
        if (from == to || !in(length, 1, 60) || !in(kind, 0, 2)) return OUTSIDE;
        if (kind == 2 && !in(minute, real.now, 479)) return OUTSIDE;
        if (real.now == 480) return NOT;
        if (real.phones.size() == 40) return FULL;
        Phone p = new Phone();
        p.number = real.phones.size();
        p.from = from;
        p.to = to;
        p.length = length;
        p.kind = kind;
        p.due = kind == 2 ? minute : NONE;
        p.booked = real.now;
        int same = 0;
        for (Phone q : real.phones) {
            if (q.open() && Set.of(q.from, q.to).equals(Set.of(from, to))) same++;
        }
        int wires = 0;
        for (Wire w : real.net) {
            if (Set.of(w.a(), w.b()).equals(Set.of(from, to))) wires++;
        }
        p.told = value("told", 6, real.now, 0) * same / (1 + wires);
        real.phones.add(p);
        return p.number;
    }

    int cancel(int c) {
        if (!in(c, 0, real.phones.size() - 1)) return UNKNOWN;
        Phone p = real.phones.get(c);
        if (!p.open()) return NOT;
        p.release();
        p.state = 5;
        p.over = real.now;
        p.cancelledAt = real.now;
        return 1;
    }

    int again(int c) {
        if (!in(c, 0, real.phones.size() - 1)) return UNKNOWN;
        Phone p = real.phones.get(c);
        if (p.state != 4 || p.again || real.now == 480) return NOT;
        if (real.phones.size() == 40) return FULL;
        p.again = true;
        return book(p.from, p.to, p.length - (p.over - p.began), 0, 0);
    }

    int told(int c, int what) {
        if (!in(c, 0, real.phones.size() - 1)) return UNKNOWN;
        Phone p = real.phones.get(c);
        switch (what) {
            case 0: return p.from;
            case 1: return p.to;
            case 2: return p.length;
            case 3: return p.kind;
            case 4: return p.due;
            case 5: return p.booked;
            case 6: return p.state;
            case 7: return p.began;
            case 8: return p.over;
            case 9: return p.waited;
            case 10: return p.told;
            case 11: return p.state == 3 || p.state == 4 ? p.way.size() : p.has.size();
            case 12: return charge(real, p);
            case 13: return p.way.isEmpty() ? NONE : miles(p.way);
            default: return OUTSIDE;
        }
    }

    int way(int c, int i) {
        if (!in(c, 0, real.phones.size() - 1)) return UNKNOWN;
        Phone p = real.phones.get(c);
        return in(i, 0, p.way.size() - 1) ? p.way.get(i).number() : NONE;
    }

    int ways(int a, int b, int n, int i, int j) {
        if (!towns(a, b)) return UNKNOWN;
        if (a == b || !in(n, 1, 3)) return OUTSIDE;
        List<List<Wire>> all = allWays(real.net, a, b, n);
        if (!in(i, 0, all.size() - 1)) return NONE;
        List<Wire> way = all.get(i);
        if (j == NONE) return miles(way);
        return in(j, 0, way.size() - 1) ? way.get(j).number() : NONE;
    }

    int go(int n) {
        if (!in(n, 0, 200)) return OUTSIDE;
        if (real.now + n > 480) return NOT;
        int begun = 0;
        for (int i = 0; i < n; i++) {
            begun += minute(real);
        }
        return begun;
    }

    int wrong(int what) {
        if (!in(what, 0, 2)) return OUTSIDE;
        int[] by = real.phones.stream().filter(p -> in(p.state, 2, 4))
                .mapToInt(p -> Math.abs(p.told - p.waited)).toArray();
        return what == 0 ? Arrays.stream(by).sum() : what == 1 ? Arrays.stream(by).max().orElse(0) : by.length;
    }

    int feed(int n, long bytes) {
        if (!in(n, 1, 8)) return OUTSIDE;
        if (text.size() + n > 160) return FULL;
        for (int i = n; i > 0; i--) {
            text.add((int) (bytes >> 8 * (i - 1)) & 255);
        }
        return text.size();
    }

    int order(int minute) {
        if (!in(minute, 0, 479)) return OUTSIDE;
        if (orders.size() == 6) return FULL;
        TextModel read = new TextModel(text, orders.size());
        text = new ArrayList<>();
        faultAt = read.faultAt;
        if (read.fault != 0) return -10 - read.fault;
        orders.add(new Order(minute, read.clauses));
        return orders.size() - 1;
    }

    int fault() {
        return faultAt;
    }

    int force(int minute, int what) {
        if (!in(minute, 0, 479)) return OUTSIDE;
        List<String> names = List.of("fixed", "first", "booked", "short", "far");
        List<String> keys = keys(minute, 0);
        if (in(what, 6, 10)) return what - 6 < keys.size() ? names.indexOf(keys.get(what - 6)) : NONE;
        if (in(what, 21, 920)) return coin(what - 20, minute, 0);
        switch (what) {
            case 0: return value("ways", 2, minute, 0);
            case 1: return value("hold", 0, minute, 0);
            case 2: return value("grace", 5, minute, 0);
            case 3: return value("told", 6, minute, 0);
            case 4: return value("back", 50, minute, 0);
            case 5: return keys.size();
            case 1000: return night(minute, 0);
            default: return OUTSIDE;
        }
    }

    int ticket(int a, int b, int x, int y) {
        if (!towns(a, b)) return UNKNOWN;
        if (a == b || !in(x, 0, 9999) || !in(y, 0, 9999)) return OUTSIDE;
        if (tickets.size() == 40) return FULL;
        tickets.add(new int[] {a, b, x, y});
        return tickets.size();
    }

    /** Sure bounds by walking the tickets over and over; a hundredth is taken off each for 'strictly'. */
    int clocks(int a, int b, int what) {
        if (!towns(a, b)) return UNKNOWN;
        if (!in(what, 0, 2)) return OUTSIDE;
        boolean quarrel = false;
        for (int from = 0; from < 8; from++) {
            quarrel |= below(from) == null;
        }
        if (what == 2 && quarrel) return -2;
        if (quarrel) return NOT;
        long up = below(a)[b];
        boolean joined = up < Long.MAX_VALUE;
        if (what == 2) return joined ? 1 : 0;
        if (!joined) return NOT;
        if (a == b) return what == 0 ? -1 : 1;
        long hundredths = what == 0 ? below(b)[a] : up;
        int whole = (int) Math.floorDiv(hundredths + 99, 100L);
        return what == 0 ? -whole : whole;
    }

    private long[] below(int from) {
        long[] at = new long[8];
        Arrays.fill(at, Long.MAX_VALUE);
        at[from] = 0;
        for (int round = 0; round < 10; round++) {
            boolean changed = false;
            for (int[] t : tickets) {
                changed |= relax(at, t[0], t[1], 100L * (t[3] - t[2] + 1) - 1);
                changed |= relax(at, t[1], t[0], 100L * (t[2] - t[3] + 1) - 1);
            }
            if (!changed) {
                return at;
            }
        }
        return null;
    }

    private static boolean relax(long[] at, int a, int b, long by) {
        if (at[a] == Long.MAX_VALUE || at[a] + by >= at[b]) {
            return false;
        }
        at[b] = at[a] + by;
        return true;
    }

    int need(int hour, int h) {
        if (!in(hour, 0, 11) || !in(h, 0, 9)) return OUTSIDE;
        int was = needs[hour];
        needs[hour] = h;
        return was;
    }

    int shifts(int i) {
        if (!in(i, -1, 8)) return OUTSIDE;
        int[] begin = new int[9];
        int least = fewest(0, 0, 0, 0, new Integer[9][10][10][10]);
        int x = 0, y = 0, z = 0, used = 0;
        for (int hour = 0; hour < 9; hour++) {
            for (int s = 0; s <= 9; s++) {
                Integer rest = restAfter(hour, x, y, z, s);
                if (rest != null && used + s + rest == least) {
                    begin[hour] = s;
                    used += s;
                    x = y;
                    y = z;
                    z = s;
                    break;
                }
            }
        }
        return i == -1 ? least : begin[i];
    }

    /** The fewest SHIFTS from an hour on, when x, y, z began in the three hours before. */
    private int fewest(int hour, int x, int y, int z, Integer[][][][] known) {
        if (hour == 9) {
            return needs[9] <= x + y + z && needs[10] <= y + z && needs[11] <= z ? 0 : 1000000;
        }
        if (known[hour][x][y][z] == null) {
            int best = 1000000;
            for (int s = 0; s <= 9; s++) {
                if (x + y + z + s >= needs[hour]) {
                    best = Math.min(best, s + fewest(hour + 1, y, z, s, known));
                }
            }
            known[hour][x][y][z] = best;
        }
        return known[hour][x][y][z];
    }

    private Integer restAfter(int hour, int x, int y, int z, int s) {
        if (x + y + z + s < needs[hour]) {
            return null;
        }
        return fewest(hour + 1, y, z, s, new Integer[9][10][10][10]);
    }

    int beside(int without, int set, int what) {
        if (without < 0 || without >= 1 << orders.size() || set < 0 || set >= 1 << offers.size()) return UNKNOWN;
        if (!in(what, 0, 4)) return OUTSIDE;
        Course day = besideCourse(without, set);
        switch (what) {
            case 0: return waited(day);
            case 1: return inState(day, 3);
            case 2: return inState(day, 4);
            case 3: return charges(day);
            default: return day.rings;
        }
    }

    int offer(int a, int b, int miles, int coin) {
        if (!towns(a, b)) return UNKNOWN;
        if (a == b || !in(miles, 1, 300) || !in(coin, 0, 9999)) return OUTSIDE;
        if (offers.size() == 4) return FULL;
        offers.add(new Offer(a, b, miles, coin));
        return offers.size() - 1;
    }

    int plan(int c, int what) {
        if (!in(c, 0, 99999) || !in(what, 0, 2)) return OUTSIDE;
        List<int[]> all = new ArrayList<>();
        for (int set = 0; set < 1 << offers.size(); set++) {
            int coin = 0;
            for (int k = 0; k < offers.size(); k++) {
                coin += (set >> k & 1) * offers.get(k).coin();
            }
            if (coin <= c) {
                all.add(new int[] {waited(besideCourse(0, set)), coin, set});
            }
        }
        all.sort(Arrays::compare);
        int[] best = all.get(0);
        return what == 0 ? best[2] : what == 1 ? best[1] : best[0];
    }
}
