import java.util.Arrays;
import java.util.Random;

/**
 * Any arguments in any state: nothing is thrown, and what is refused changes nothing: an object that gets all
 * calls and one that gets those alone that were not refused answer alike.
 */
public final class HardArgumentsTest {
    private static final int[] HARD = {Integer.MIN_VALUE, Integer.MIN_VALUE + 1, -100004, -100001, -2, -1, 0, 1, 2, 3, 4,
        5, 7, 8, 9, 10, 15, 16, 30, 31, 32, 40, 60, 61, 63, 64, 160, 200, 300, 301, 479, 480, 920, 1000, 9999, 99999,
        1 << 16, 1 << 30, Integer.MAX_VALUE - 1, Integer.MAX_VALUE};
    private static final int METHODS = 24;
    // those that change nothing
    private static final int[] ASKING = {3, 3, 4, 8, 8, 8, 9, 10, 12, 15, 16, 18, 20, 21, 23};
    // no object gets more than the document's 512
    private static final int CALLS = 320, QUESTIONS = 512 - CALLS;

    private final Random random;
    private final TrunkRoom x = new TrunkRoom();
    private final TrunkRoom y = new TrunkRoom();
    private int[] a = new int[5];
    private long bytes = 0;
    private String call = "";

    private HardArgumentsTest(int seed) {
        random = new Random(seed);
    }

    public static void main(String[] args) {
        int wrong = 0;
        for (int seed = 0; seed < 1000; seed++) {
            HardArgumentsTest t = new HardArgumentsTest(seed);
            try {
                wrong += t.run() ? 0 : 1;
            } catch (RuntimeException | StackOverflowError e) {
                wrong++;
                System.out.println("seed " + seed + ": " + t.call + " threw " + e);
            }
        }
        System.out.println(wrong == 0 ? "nothing thrown, nothing changed" : wrong + " runs were wrong");
        if (wrong != 0) {
            System.exit(1);
        }
    }

    private boolean run() {
        for (int i = 0; i < CALLS; i++) {
            int method = random.nextInt(METHODS);
            choose(method, random.nextInt(3));
            int answer = on(x, method);
            boolean refused = answer <= -100001 && answer >= -100004;
            if (!refused && on(y, method) != answer) {
                System.out.println(call + ": something that was refused before changed something");
                return false;
            }
        }
        for (int i = 0; i < QUESTIONS; i++) {
            int method = ASKING[random.nextInt(ASKING.length)];
            choose(method, 0);
            if (on(x, method) != on(y, method)) {
                System.out.println(call + ": something that was refused changed something");
                return false;
            }
        }
        return true;
    }

    /** A hard one, or one that is likely good. */
    private int n(int hardness, int least, int most) {
        boolean hard = random.nextInt(6) < hardness;
        return hard ? HARD[random.nextInt(HARD.length)] : least + random.nextInt(most - least + 1);
    }

    /** Arguments for a method, the first ones of those that are called. */
    private void choose(int method, int h) {
        int t = n(h, 0, 479), len = n(h, 1, 60), mile = n(h, 1, 300);
        int town = n(h, 0, 3), other = n(h, 0, 3), wire = n(h, 0, 15), c = n(h, 0, 20), few = n(h, -1, 14);
        switch (method) {
            case 0: set(town, other, mile); break;
            case 1: set(wire, n(h, 0, 2), t, n(h, t & 255, 479)); break;
            case 2: set(town, n(h, 0, 9)); break;
            case 3: set(wire, n(h, 0, 6)); break;
            case 5: set(town, other, len, n(h, 0, 2), t); break;
            case 8: case 9: set(c, few); break;
            case 10: set(town, other, n(h, 1, 3), n(h, 0, 20), few); break;
            case 11: set(n(h, 0, 5)); break;
            case 12: set(n(h, 0, 2)); break;
            case 13: chooseBytes(h); break;
            case 14: set(t); break;
            case 16: set(t, n(h, 0, 10)); break;
            case 17: set(town, other, mile, n(h, mile, mile + 1)); break;
            case 18: set(town, other, n(h, 0, 2)); break;
            case 19: set(n(h, 0, 11), n(h, 0, 9)); break;
            case 21: set(n(h, 0, 15), n(h, 0, 3), n(h, 0, 4)); break;
            case 22: set(town, other, mile, n(h, 0, 9999)); break;
            case 23: set(n(h, 0, 99999), n(h, 0, 2)); break;
            default: set(method == 6 || method == 7 ? c : few); break;
        }
        call = "method " + method + " with " + Arrays.toString(a);
    }

    private void set(int... values) {
        a = Arrays.copyOf(values, 5);
    }

    private void chooseBytes(int h) {
        String[] texts = {"hold 9; ", "ways 3; ", "next far", ",short; ", "told 9 ", "strike 0", ";"};
        String text = texts[random.nextInt(texts.length)];
        bytes = h == 2 ? random.nextLong() : 0;
        for (int i = 0; i < text.length(); i++) {
            bytes = bytes << 8 | text.charAt(i);
        }
        set(n(h / 2, text.length(), text.length()));
    }

    private int on(TrunkRoom room, int method) {
        switch (method) {
            case 0: return room.wire(a[0], a[1], a[2]);
            case 1: return room.span(a[0], a[1], a[2], a[3]);
            case 2: return room.hands(a[0], a[1]);
            case 3: return room.about(a[0], a[1]);
            case 4: return room.count(a[0]);
            case 5: return room.book(a[0], a[1], a[2], a[3], a[4]);
            case 6: return room.cancel(a[0]);
            case 7: return room.again(a[0]);
            case 8: return room.told(a[0], a[1]);
            case 9: return room.way(a[0], a[1]);
            case 10: return room.ways(a[0], a[1], a[2], a[3], a[4]);
            case 11: return room.go(a[0]);
            case 12: return room.wrong(a[0]);
            case 13: return room.feed(a[0], bytes);
            case 14: return room.order(a[0]);
            case 15: return room.fault();
            case 16: return room.force(a[0], a[1]);
            case 17: return room.ticket(a[0], a[1], a[2], a[3]);
            case 18: return room.clocks(a[0], a[1], a[2]);
            case 19: return room.need(a[0], a[1]);
            case 20: return room.shifts(a[0]);
            case 21: return room.beside(a[0], a[1], a[2]);
            case 22: return room.offer(a[0], a[1], a[2], a[3]);
            default: return room.plan(a[0], a[1]);
        }
    }
}
