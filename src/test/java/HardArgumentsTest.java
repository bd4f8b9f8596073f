import java.util.ArrayList;
import java.util.List;
import java.util.Random;

/** Any arguments in any state: nothing is thrown, and what is refused changes nothing. */
public final class HardArgumentsTest {
    private static final int[] HARD = {Integer.MIN_VALUE, Integer.MIN_VALUE + 1, -100004, -100001, -2, -1, 0, 1, 2, 3, 4,
        5, 7, 8, 9, 10, 15, 16, 30, 31, 32, 40, 60, 61, 63, 64, 160, 200, 300, 301, 479, 480, 920, 1000, 9999, 99999,
        1 << 16, 1 << 30, Integer.MAX_VALUE - 1, Integer.MAX_VALUE};
    private static final int METHODS = 24;
    // their answers may be as a refusal is, or they change nothing in any case
    private static final int CLOCKS = 18;

    private final Random random;
    private final TrunkRoom x = new TrunkRoom();
    private String call = "";

    private HardArgumentsTest(int seed) {
        random = new Random(seed);
    }

    public static void main(String[] args) {
        int wrong = 0;
        for (int seed = 0; seed < 60; seed++) {
            HardArgumentsTest t = new HardArgumentsTest(seed);
            try {
                wrong += t.run() ? 0 : 1;
            } catch (RuntimeException | StackOverflowError e) {
                wrong++;
                System.out.println("seed " + seed + ": " + t.call + " threw " + e);
            }
        }
        System.out.println(wrong == 0 ? "nothing thrown, nothing changed" : wrong + " runs were wrong");
        if (wrong != 0) {
            System.exit(1);
        }
    }

    private boolean run() {
        for (int i = 0; i < 512; i++) {
            List<Integer> before = snapshot();
            int method = random.nextInt(METHODS);
            int answer = step(method, random.nextInt(3));
            boolean refused = answer <= -100001 && answer >= -100004 && method != CLOCKS;
            if (refused && !snapshot().equals(before)) {
                System.out.println(call + " was refused and changed something");
                return false;
            }
        }
        return true;
    }

    /** A hard one, or one that is likely good. */
    private int n(int hardness, int least, int most) {
        boolean hard = random.nextInt(6) < hardness;
        return hard ? HARD[random.nextInt(HARD.length)] : least + random.nextInt(most - least + 1);
    }

    private int step(int method, int h) {
        int a = n(h, 0, 3), b = n(h, 0, 3), c = n(h, 0, 39), m = n(h, 1, 300), t = n(h, 0, 479), s = n(h, 0, 15);
        int small = n(h, -1, 14), k = n(h, 0, 2), w = n(h, 0, 15), len = n(h, 1, 60);
        call = "method " + method + " with " + List.of(a, b, c, m, t, s, small, k, w, len);
        switch (method) {
            case 0: return x.wire(a, b, m);
            case 1: return x.span(w, k, t, n(h, t & 255, 479));
            case 2: return x.hands(a, small);
            case 3: return x.about(w, small);
            case 4: return x.count(small);
            case 5: return x.book(a, b, len, k, t);
            case 6: return x.cancel(c);
            case 7: return x.again(c);
            case 8: return x.told(c, small);
            case 9: return x.way(c, small);
            case 10: return x.ways(a, b, n(h, 1, 3), n(h, 0, 20), small);
            case 11: return x.go(n(h, 0, 5));
            case 12: return x.wrong(k);
            case 13: return feed(h);
            case 14: return x.order(t);
            case 15: return x.fault();
            case 16: return x.force(t, n(h, 0, 1000));
            case 17: return x.ticket(a, b, m, n(h, 0, 9999));
            case CLOCKS: return x.clocks(a, b, k);
            case 19: return x.need(small, n(h, 0, 9));
            case 20: return x.shifts(small);
            case 21: return x.beside(s, s, n(h, 0, 4));
            case 22: return x.offer(a, b, m, m);
            default: return x.plan(m, k);
        }
    }

    private int feed(int h) {
        String[] texts = {"hold 9; ", "ways 3; ", "next far", ",short; ", "told 9 ", "strike 0", ";"};
        String text = texts[random.nextInt(texts.length)];
        long bytes = h == 2 ? random.nextLong() : 0;
        for (int i = 0; i < text.length(); i++) {
            bytes = bytes << 8 | text.charAt(i);
        }
        return x.feed(n(h / 2, text.length(), text.length()), bytes);
    }

    private List<Integer> snapshot() {
        List<Integer> all = new ArrayList<>();
        for (int what = 0; what <= 15; what++) {
            all.add(x.count(what));
        }
        for (int c = 0; c < 40; c++) {
            for (int what = 0; what <= 13; what++) {
                all.add(x.told(c, what));
            }
            all.add(x.way(c, 0));
        }
        for (int w = 0; w < 16; w++) {
            for (int what = 0; what <= 6; what++) {
                all.add(x.about(w, what));
            }
        }
        for (int what = 0; what <= 10; what++) {
            all.add(x.force(479, what));
        }
        for (int i = -1; i < 9; i++) {
            all.add(x.shifts(i));
        }
        all.add(x.fault());
        all.add(x.clocks(0, 1, 0));
        all.add(x.plan(99999, 2));
        return all;
    }
}
