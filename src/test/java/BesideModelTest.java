import java.util.ArrayList;
import java.util.List;
import java.util.Random;

/** Long runs of calls, made by fixed seeds, on a TrunkRoom and on RoomModel side by side. */
public final class BesideModelTest {
    // no object gets more calls than the document allows
    private static final int MOST_CALLS = 512;
    private static int wrong = 0;

    private final Random random;
    private final TrunkRoom room = new TrunkRoom();
    private final RoomModel model = new RoomModel();
    private final List<String> done = new ArrayList<>();
    private final int towns;
    private final int seed;
    private boolean failed = false;

    private BesideModelTest(int seed) {
        this.seed = seed;
        random = new Random(seed);
        towns = 3 + random.nextInt(5);
    }

    public static void main(String[] args) {
        int runs = args.length > 0 ? Integer.parseInt(args[0]) : 400;
        int from = args.length > 1 ? Integer.parseInt(args[1]) : 0;
        int[] ends = new int[6];
        int rings = 0;
        for (int seed = from; seed < from + runs; seed++) {
            BesideModelTest t = new BesideModelTest(seed);
            t.run();
            for (int state = 0; state < 6; state++) {
                ends[state] += RoomModel.inState(t.model.real, state);
            }
            rings += t.model.real.rings;
        }
        System.out.println("calls by states at the end: " + java.util.Arrays.toString(ends) + ", rings " + rings);
        if (rings == 0 || ends[1] == 0 || ends[4] == 0) {
            System.out.println("the runs do not reach what they should");
            wrong++;
        }
        System.out.println(wrong == 0 ? "as the model has it" : wrong + " runs differ");
        if (wrong != 0) {
            System.exit(1);
        }
    }

    private void due(String call, int got, int want) {
        done.add(call + " = " + want);
        if (got != want && !failed) {
            failed = true;
            wrong++;
            System.out.println("seed " + seed + ": " + call + " answered " + got + ", due is " + want);
            if (wrong == 1) {
                done.forEach(d -> System.out.println("   " + d));
            }
        }
    }

    private int r(int n) {
        return random.nextInt(n);
    }

    /** Mostly from 0 to most, now and then outside. */
    private int about(int most) {
        return r(25) == 0 ? r(2) == 0 ? -1 - r(3) : most + 1 + r(3) : r(most + 1);
    }

    private int town() {
        return r(60) == 0 ? about(7) : r(towns);
    }

    private void run() {
        for (int i = 0; i < 4 + r(14); i++) {
            wire();
        }
        for (int i = 0; i < r(3); i++) {
            order();
        }
        // what a step may take, and a last look at everything that is left
        while (done.size() < MOST_CALLS - 120 && !failed) {
            step();
        }
        while (done.size() < MOST_CALLS - 4 && !failed) {
            ask();
        }
    }

    private void step() {
        switch (r(22)) {
            case 0: case 1: case 2: case 3: case 4: case 5: book(); break;
            case 6: case 7: case 8: case 9: go(); break;
            case 10: if (r(3) == 0) order(); break;
            case 11: span(); break;
            case 12: hands(); break;
            case 13: if (r(3) == 0) wire(); break;
            case 14: cancelOrAgain(); break;
            case 15: offer(); break;
            case 16: if (r(3) == 0) beside(); break;
            case 17: if (r(6) == 0) plan(); break;
            case 18: ticket(); break;
            case 19: need(); break;
            case 20: ways(); break;
            default: look(); break;
        }
    }

    private void wire() {
        int a = town(), b = town(), m = r(3) == 0 ? 10 * (1 + r(3)) : about(301);
        due("wire(" + a + ", " + b + ", " + m + ")", room.wire(a, b, m), model.wire(a, b, m));
    }

    private void span() {
        int w = about(Math.max(1, model.real.net.size())), k = about(2);
        int from = r(2) == 0 ? about(479) : model.real.now + r(5), to = from + r(12) - 1;
        due("span(" + w + ", " + k + ", " + from + ", " + to + ")", room.span(w, k, from, to),
                model.span(w, k, from, to));
    }

    private void hands() {
        int t = r(3) == 0 ? about(7) : r(towns), h = r(3) == 0 ? about(9) : r(3);
        due("hands(" + t + ", " + h + ")", room.hands(t, h), model.hands(t, h));
    }

    private void book() {
        int a = town(), b = town(), n = r(3) == 0 ? about(61) : 1 + r(9), k = r(40) == 0 ? about(3) : r(3);
        int m = r(10) == 0 ? about(500) : model.real.now + r(15) - 1;
        due("book(" + a + ", " + b + ", " + n + ", " + k + ", " + m + ")", room.book(a, b, n, k, m),
                model.book(a, b, n, k, m));
    }

    private void go() {
        int n = r(40) == 0 ? about(200) : r(10) == 0 ? r(25) : r(4);
        due("go(" + n + ")", room.go(n), model.go(n));
    }

    private void cancelOrAgain() {
        int c = about(Math.max(0, model.real.phones.size() - 1));
        if (r(2) == 0) {
            due("cancel(" + c + ")", room.cancel(c), model.cancel(c));
        }
        for (RoomModel.Phone p : new ArrayList<>(model.real.phones)) {
            if (p.state == 4 && r(3) == 0 || r(60) == 0) {
                due("again(" + p.number + ")", room.again(p.number), model.again(p.number));
            }
        }
    }

    private void offer() {
        int a = town(), b = town(), m = about(300), coin = r(3) == 0 ? about(9999) : 10 * r(4);
        due("offer(" + a + ", " + b + ", " + m + ", " + coin + ")", room.offer(a, b, m, coin),
                model.offer(a, b, m, coin));
    }

    private void beside() {
        int without = r(20) == 0 ? about(64) : r(1 << model.orders.size());
        int set = r(20) == 0 ? about(16) : r(1 << model.offers.size());
        for (int i = 0; i < 4; i++) {
            int what = about(4);
            due("beside(" + without + ", " + set + ", " + what + ")", room.beside(without, set, what),
                    model.beside(without, set, what));
        }
    }

    private void plan() {
        int c = r(3) == 0 ? about(99999) : r(90), what = about(2);
        due("plan(" + c + ", " + what + ")", room.plan(c, what), model.plan(c, what));
    }

    private void ticket() {
        int a = town(), b = town();
        int x = r(30) == 0 ? about(9999) : 100 + r(40), y = r(30) == 0 ? about(9999) : x + 10 * (b - a) + r(3) - 1;
        due("ticket(" + a + ", " + b + ", " + x + ", " + y + ")", room.ticket(a, b, x, y), model.ticket(a, b, x, y));
        for (int i = 0; i < 6; i++) {
            int p = about(7), q = about(7), what = about(2);
            due("clocks(" + p + ", " + q + ", " + what + ")", room.clocks(p, q, what), model.clocks(p, q, what));
        }
    }

    private void need() {
        int hour = about(11), h = about(9);
        due("need(" + hour + ", " + h + ")", room.need(hour, h), model.need(hour, h));
        for (int i = -2; i <= 9; i++) {
            if (r(4) == 0) {
                due("shifts(" + i + ")", room.shifts(i), model.shifts(i));
            }
        }
    }

    private void ways() {
        int a = town(), b = town(), n = about(3);
        for (int k = 0; k < 8; k++) {
            int i = r(3) == 0 ? about(300) : r(12), j = r(6) - 2;
            due("ways(" + a + ", " + b + ", " + n + ", " + i + ", " + j + ")", room.ways(a, b, n, i, j),
                    model.ways(a, b, n, i, j));
        }
    }

    private void look() {
        for (int i = 0; i < 12; i++) {
            ask();
        }
    }

    private void ask() {
        int c = about(Math.max(0, model.real.phones.size() - 1)), w = about(Math.max(0, model.real.net.size() - 1));
        int what = about(13);
        switch (r(12)) {
            case 0: case 1: case 2: case 3: case 4:
                due("told(" + c + ", " + what + ")", room.told(c, what), model.told(c, what));
                break;
            case 5: case 6:
                what = about(6);
                due("about(" + w + ", " + what + ")", room.about(w, what), model.about(w, what));
                break;
            case 7: case 8:
                what = r(4) == 0 ? 14 + r(3) : what;
                due("count(" + what + ")", room.count(what), model.count(what));
                break;
            case 9:
                what = about(2);
                due("way(" + c + ", " + what + ")", room.way(c, what), model.way(c, what));
                break;
            case 10:
                what = about(2);
                due("wrong(" + what + ")", room.wrong(what), model.wrong(what));
                break;
            default:
                int minute = about(479);
                what = r(3) == 0 ? about(11) : r(20) == 0 ? 1000 : 18 + r(905);
                due("force(" + minute + ", " + what + ")", room.force(minute, what), model.force(minute, what));
                break;
        }
    }

    // ---- texts

    private String number(int most) {
        String n = String.valueOf(r(30) == 0 ? r(20000) : r(most + 1));
        return r(8) == 0 ? "0" + n : n;
    }

    private String blank() {
        return r(6) == 0 ? " " : "";
    }

    private String keys() {
        List<String> all = new ArrayList<>(List.of("fixed", "first", "booked", "short", "far"));
        StringBuilder b = new StringBuilder(" ");
        int n = 1 + r(5);
        for (int i = 0; i < n; i++) {
            b.append(i == 0 ? "" : blank() + ",").append(blank());
            b.append(r(40) == 0 ? "far" : all.remove(r(all.size())));
        }
        return b.toString();
    }

    private String clause() {
        switch (r(12)) {
            case 0: case 1: case 2: return "next" + keys();
            case 3: return "ways" + blank() + (1 + r(3));
            case 4: case 5: case 6: return "hold " + number(r(3) == 0 ? 60 : 12);
            case 7: return "grace" + blank() + number(10);
            case 8: return "told" + number(99) + blank();
            case 9: return "charge" + number(99) + "to" + blank() + number(600);
            case 10: return "night " + number(100) + blank() + "to" + number(479) + " by" + number(100);
            default: return r(2) == 0 ? "back" + number(100)
                    : "strike " + (r(4) > 0 && model.orders.size() > 0 ? r(model.orders.size()) : r(6));
        }
    }

    private void order() {
        StringBuilder b = new StringBuilder();
        int n = r(15) == 0 ? r(13) : r(5);
        for (int i = 0; i < n; i++) {
            b.append(blank()).append(clause()).append(blank()).append(";").append(blank());
        }
        if (r(5) == 0 && b.length() > 0) {
            int at = r(b.length());
            String signs = " ;,0919azto~\u00e9";
            switch (r(3)) {
                case 0: b.deleteCharAt(at); break;
                case 1: b.insert(at, signs.charAt(r(signs.length()))); break;
                default: b.setCharAt(at, signs.charAt(r(signs.length()))); break;
            }
        }
        feed(b.toString());
        int minute = r(3) == 0 ? 0 : r(3) == 0 ? about(479) : Math.min(479, model.real.now + r(6));
        due("order(" + minute + ") of '" + b + "'", room.order(minute), model.order(minute));
        due("fault()", room.fault(), model.fault());
    }

    private void feed(String text) {
        int at = 0;
        while (at < text.length()) {
            int n = Math.min(text.length() - at, 1 + r(8));
            long bytes = random.nextLong();
            for (int i = 0; i < n; i++) {
                bytes = bytes << 8 | text.charAt(at + i);
            }
            int asked = r(60) == 0 ? about(9) : n;
            due("feed(" + asked + ", " + bytes + ")", room.feed(asked, bytes), model.feed(asked, bytes));
            at += n;
        }
    }
}
