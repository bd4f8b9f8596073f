import java.util.ArrayList;
import java.util.Arrays;
import java.util.HashMap;
import java.util.List;
import java.util.Map;

/**
 * Runs of calls written as lines, each on a new object:
 *
 *   wire 0 1 10 = 0           a call and the answer that is due (without '=' it is not looked at)
 *   16x wire 0 1 10 = 0+      sixteen times; the answers that are due go up from 0
 *   told 3 * = 0 1 5          told 3 0, told 3 1, told 3 2
 *   order 0 'hold 5;' = 0     the text is fed before
 *   # a remark
 *
 * Behind every call that is due to be refused it is seen to that it changed nothing: an object with it and one
 * without it answer alike whatever they are asked, at once and some MINUTES later. No object gets more than the
 * 512 calls that the document allows.
 */
final class Script {
    private static final int MOST_CALLS = 512;
    private static final long STAR = Long.MIN_VALUE + 7;
    private static final Map<String, Long> WORDS = Map.of("NONE", -1L, "UNKNOWN", -100001L, "OUTSIDE", -100002L,
            "NOT", -100003L, "FULL", -100004L, "MIN", (long) Integer.MIN_VALUE, "MAX", (long) Integer.MAX_VALUE,
            "LMIN", Long.MIN_VALUE, "LMAX", Long.MAX_VALUE, "*", STAR);

    private static int wrong = 0;
    private static int scripts = 0;
    private static int refusals = 0;
    private static final Map<String, List<Integer>> KNOWN = new HashMap<>();

    /** One call, or an order with its text. */
    private record Call(String method, long[] args, String text) {
        private int i(int k) {
            return (int) args[k];
        }

        int on(TrunkRoom x) {
            switch (method) {
                case "wire": return x.wire(i(0), i(1), i(2));
                case "span": return x.span(i(0), i(1), i(2), i(3));
                case "hands": return x.hands(i(0), i(1));
                case "about": return x.about(i(0), i(1));
                case "count": return x.count(i(0));
                case "book": return x.book(i(0), i(1), i(2), i(3), i(4));
                case "cancel": return x.cancel(i(0));
                case "again": return x.again(i(0));
                case "told": return x.told(i(0), i(1));
                case "way": return x.way(i(0), i(1));
                case "ways": return x.ways(i(0), i(1), i(2), i(3), i(4));
                case "go": return x.go(i(0));
                case "wrong": return x.wrong(i(0));
                case "feed": return x.feed(i(0), args[1]);
                case "order": return x.order(i(0));
                case "fault": return x.fault();
                case "force": return x.force(i(0), i(1));
                case "ticket": return x.ticket(i(0), i(1), i(2), i(3));
                case "clocks": return x.clocks(i(0), i(1), i(2));
                case "need": return x.need(i(0), i(1));
                case "shifts": return x.shifts(i(0));
                case "beside": return x.beside(i(0), i(1), i(2));
                case "offer": return x.offer(i(0), i(1), i(2), i(3));
                case "plan": return x.plan(i(0), i(1));
                default: throw new IllegalStateException("no call " + method);
            }
        }

        Call with(int k, long value) {
            long[] a = args.clone();
            a[k] = value;
            return new Call(method, a, text);
        }

        @Override
        public String toString() {
            return method + Arrays.toString(args).replace('[', '(').replace(']', ')');
        }
    }

    private record Due(Call call, boolean asked, long want) {
        boolean isRefusal() {
            return asked && want <= -100001 && want >= -100004;
        }
    }

    private Script() { }

    static void run(String name, String text) {
        scripts++;
        List<Due> all = new ArrayList<>();
        for (String line : text.split("\n")) {
            parse(line.strip(), all);
        }
        if (all.size() > MOST_CALLS) {
            fails(name, "has " + all.size() + " calls");
            return;
        }
        TrunkRoom x = new TrunkRoom();
        List<Call> done = new ArrayList<>();
        int number = 0;
        for (Due d : all) {
            number++;
            int got = d.call().on(x);
            if (d.asked() && got != d.want()) {
                fails(name, "call " + number + ", " + d.call() + ", answered " + got + ", due is " + d.want());
            }
            if (d.isRefusal()) {
                seeUnchanged(name, done, d.call());
            } else {
                done.add(d.call());
            }
        }
    }

    /** To be called last: what came out, and the exit code. */
    static void end() {
        System.out.println(scripts + " runs with " + refusals + " refusals, "
                + (wrong == 0 ? "all as due" : wrong + " answers are not as due"));
        if (wrong != 0) {
            System.exit(1);
        }
    }

    static void fails(String name, String what) {
        wrong++;
        System.out.println(name + " | " + what);
    }

    // ---- lines

    private static void parse(String line, List<Due> all) {
        if (line.isEmpty() || line.startsWith("#")) {
            return;
        }
        int cut = line.lastIndexOf(" = ");
        String left = cut < 0 ? line : line.substring(0, cut);
        String right = cut < 0 ? "" : line.substring(cut + 3).strip();
        int times = 1;
        if (left.matches("\\d+x .*")) {
            times = Integer.parseInt(left.substring(0, left.indexOf('x')));
            left = left.substring(left.indexOf('x') + 2);
        }
        String text = null;
        int quote = left.indexOf('\'');
        if (quote >= 0) {
            text = left.substring(quote + 1, left.lastIndexOf('\''));
            left = left.substring(0, quote);
        }
        String[] parts = left.strip().split(" +");
        long[] args = new long[parts.length - 1];
        int star = -1;
        for (int k = 0; k < args.length; k++) {
            args[k] = number(parts[k + 1]);
            star = args[k] == STAR ? k : star;
        }
        Call call = new Call(parts[0], args, text);
        if (star >= 0) {
            String[] wants = right.split(" +");
            for (int k = 0; k < wants.length; k++) {
                all.add(new Due(call.with(star, k), true, number(wants[k])));
            }
            return;
        }
        for (int k = 0; k < times; k++) {
            feed(text, all);
            boolean up = right.endsWith("+");
            long want = right.isEmpty() ? 0 : number(up ? right.substring(0, right.length() - 1) : right);
            all.add(new Due(call, !right.isEmpty(), up ? want + k : want));
        }
    }

    private static void feed(String text, List<Due> all) {
        for (int at = 0; text != null && at < text.length(); at += 8) {
            int n = Math.min(8, text.length() - at);
            long bytes = 0;
            for (int i = 0; i < n; i++) {
                bytes = bytes << 8 | text.charAt(at + i);
            }
            all.add(new Due(new Call("feed", new long[] {n, bytes}, null), false, 0));
        }
    }

    private static long number(String word) {
        return WORDS.containsKey(word) ? WORDS.get(word) : Long.decode(word);
    }

    // ---- what is refused changes nothing

    private static void seeUnchanged(String name, List<Call> done, Call refused) {
        refusals++;
        List<Call> more = new ArrayList<>(done);
        more.add(refused);
        List<Integer> without = KNOWN.computeIfAbsent(done.toString(), k -> allAnswers(done));
        if (!without.equals(allAnswers(more))) {
            fails(name, refused + " is refused and changes something");
        }
    }

    private static List<Integer> allAnswers(List<Call> before) {
        List<Integer> answers = new ArrayList<>();
        TrunkRoom x = after(before);
        ask(before, questions(x.count(1), x.count(2), x.count(0)), answers);
        ask(before, takingQuestions(), answers);
        // what is hidden now may be seen later
        List<Call> later = new ArrayList<>(before);
        later.add(call("go", Math.min(7, 480 - x.count(0))));
        ask(later, questions(x.count(1), x.count(2), x.count(0)).subList(0, 40), answers);
        return answers;
    }

    private static TrunkRoom after(List<Call> before) {
        TrunkRoom x = new TrunkRoom();
        before.forEach(c -> c.on(x));
        return x;
    }

    private static void ask(List<Call> before, List<Call> questions, List<Integer> answers) {
        int room = MOST_CALLS - before.size();
        if (room < 40) {
            throw new IllegalStateException("too few calls are left to look at what changed: " + room);
        }
        TrunkRoom x = null;
        for (int k = 0; k < questions.size(); k++) {
            if (k % room == 0) {
                x = after(before);
            }
            answers.add(questions.get(k).on(x));
        }
    }

    private static Call call(String method, long... args) {
        return new Call(method, args, null);
    }

    /** Questions that change nothing. */
    private static List<Call> questions(int wires, int calls, int now) {
        List<Call> all = new ArrayList<>();
        for (int what = 0; what <= 15; what++) {
            all.add(call("count", what));
        }
        for (int what = 0; what <= 2; what++) {
            all.add(call("wrong", what));
            all.add(call("plan", 99999, what));
            all.add(call("plan", 20, what));
        }
        for (int what = 0; what <= 4; what++) {
            all.add(call("beside", 0, 0, what));
        }
        all.add(call("fault"));
        for (int i = -1; i <= 8; i++) {
            all.add(call("shifts", i));
        }
        for (int w = 0; w < wires; w++) {
            for (int what = 0; what <= 6; what++) {
                all.add(call("about", w, what));
            }
        }
        for (int c = 0; c < calls; c++) {
            for (int what = 0; what <= 13; what++) {
                all.add(call("told", c, what));
            }
            all.add(call("way", c, 0));
            all.add(call("way", c, 2));
        }
        for (int minute : new int[] {0, Math.min(now, 479), 479}) {
            for (int what : new int[] {0, 1, 2, 3, 4, 5, 6, 7, 8, 9, 10, 21, 120, 320, 920, 1000}) {
                all.add(call("force", minute, what));
            }
        }
        for (int a = 0; a < 8; a++) {
            for (int b = 0; b < 8; b++) {
                if (a != b) {
                    all.add(call("ways", a, b, 3, 0, -1));
                    all.add(call("clocks", a, b, 0));
                }
            }
        }
        return all;
    }

    /** Questions that change what they ask for. */
    private static List<Call> takingQuestions() {
        List<Call> all = new ArrayList<>();
        for (int t = 0; t < 8; t++) {
            all.add(call("hands", t, 0));
        }
        for (int hour = 0; hour < 12; hour++) {
            all.add(call("need", hour, 0));
        }
        all.add(call("order", 0));
        all.add(call("fault"));
        all.add(call("force", 0, 1));
        return all;
    }
}
