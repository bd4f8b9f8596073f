/** Each promise of the document with answers worked out by hand: ordinary inputs, edges, wrong inputs. */
public final class PromisesTest {
    private static final int NONE = -1, UNKNOWN = -100001, OUTSIDE = -100002, NOT = -100003, FULL = -100004;
    private static final int LEAST = Integer.MIN_VALUE, MOST = Integer.MAX_VALUE;
    private static int wrong = 0;
    private static int promise = 0;

    private static void due(String call, int got, int want) {
        if (got != want) {
            wrong++;
            System.out.println("promise " + promise + ": " + call + " answered " + got + ", due is " + want);
        }
    }

    private static void feed(TrunkRoom x, String text) {
        for (int i = 0; i < text.length(); i++) {
            x.feed(1, text.charAt(i));
        }
    }

    private static int order(TrunkRoom x, int minute, String text) {
        feed(x, text);
        return x.order(minute);
    }

    /** A text with a FAULT: which, and at which byte. */
    private static void faulty(String text, int fault, int at) {
        TrunkRoom x = new TrunkRoom();
        due("order of '" + text + "'", order(x, 0, text), -10 - fault);
        due("fault() of '" + text + "'", x.fault(), at);
        due("count(10) after '" + text + "'", x.count(10), 0);
        due("count(13) after '" + text + "'", x.count(13), 0);
    }

    private static void sound(String text) {
        TrunkRoom x = new TrunkRoom();
        due("order of '" + text + "'", order(x, 0, text), 0);
        due("fault() of '" + text + "'", x.fault(), NONE);
    }

    public static void main(String[] args) {
        newObject();
        wire();
        span();
        hands();
        about();
        count();
        book();
        cancel();
        again();
        told();
        charges();
        way();
        ways();
        go();
        holding();
        handsTaken();
        rings();
        wrong();
        feedBytes();
        orders();
        fault();
        force();
        counting();
        ticket();
        clocks();
        need();
        shifts();
        beside();
        offer();
        plan();
        System.out.println(wrong == 0 ? "all answers are as due" : wrong + " answers are not as due");
        if (wrong != 0) {
            System.exit(1);
        }
    }

    private static void newObject() {
        promise = 1;
        TrunkRoom x = new TrunkRoom();
        for (int what = 0; what <= 15; what++) {
            due("count(" + what + ")", x.count(what), 0);
        }
        for (int t = 0; t < 8; t++) {
            due("hands(" + t + ", 3)", x.hands(t, 3), 3);
        }
        for (int hour = 0; hour < 12; hour++) {
            due("need(" + hour + ", 0)", x.need(hour, 0), 0);
        }
        due("fault()", x.fault(), NONE);
        due("wrong(0)", x.wrong(0), 0);
        due("shifts(-1)", x.shifts(-1), 0);
        due("clocks(0, 1, 2)", x.clocks(0, 1, 2), 0);
        due("plan(0, 0)", x.plan(0, 0), 0);
        due("ways(0, 1, 3, 0, -1)", x.ways(0, 1, 3, 0, -1), NONE);
        due("NONE", TrunkRoom.NONE, NONE);
        due("UNKNOWN", TrunkRoom.UNKNOWN, UNKNOWN);
        due("OUTSIDE", TrunkRoom.OUTSIDE, OUTSIDE);
        due("NOT", TrunkRoom.NOT, NOT);
        due("FULL", TrunkRoom.FULL, FULL);
    }

    private static void wire() {
        promise = 2;
        TrunkRoom x = new TrunkRoom();
        due("wire(0, 7, 1)", x.wire(0, 7, 1), 0);
        due("wire(7, 0, 300)", x.wire(7, 0, 300), 1);
        due("wire(-1, -1, 0)", x.wire(-1, -1, 0), UNKNOWN);
        due("wire(0, 8, 5)", x.wire(0, 8, 5), UNKNOWN);
        due("wire(LEAST, 0, 5)", x.wire(LEAST, 0, 5), UNKNOWN);
        due("wire(0, MOST, 5)", x.wire(0, MOST, 5), UNKNOWN);
        due("wire(3, 3, 5)", x.wire(3, 3, 5), OUTSIDE);
        due("wire(3, 4, 0)", x.wire(3, 4, 0), OUTSIDE);
        due("wire(3, 4, 301)", x.wire(3, 4, 301), OUTSIDE);
        due("count(1)", x.count(1), 2);
        for (int w = 2; w < 16; w++) {
            due("wire number " + w, x.wire(0, 7, 9), w);
        }
        due("wire(1, 2, 3) of 17", x.wire(1, 2, 3), FULL);
        due("wire(1, 2, 0) of 17", x.wire(1, 2, 0), OUTSIDE);
        due("wire(8, 2, 3) of 17", x.wire(8, 2, 3), UNKNOWN);
        due("count(1)", x.count(1), 16);
        due("about(1, 0)", x.about(1, 0), 7);
        due("about(1, 1)", x.about(1, 1), 0);
        due("about(1, 2)", x.about(1, 2), 300);
    }

    private static void span() {
        promise = 3;
        TrunkRoom x = new TrunkRoom();
        due("span(0, 0, 0, 0) of no WIRE", x.span(0, 0, 0, 0), UNKNOWN);
        x.wire(0, 1, 10);
        due("span(0, 0, 1, 1)", x.span(0, 0, 1, 1), 1);
        due("span(-1, 9, 1, 1)", x.span(-1, 9, 1, 1), UNKNOWN);
        due("span(1, 0, 1, 1)", x.span(1, 0, 1, 1), UNKNOWN);
        due("span(0, 3, 1, 1)", x.span(0, 3, 1, 1), OUTSIDE);
        due("span(0, -1, 1, 1)", x.span(0, -1, 1, 1), OUTSIDE);
        due("span(0, 0, -1, 1)", x.span(0, 0, -1, 1), OUTSIDE);
        due("span(0, 0, 480, 480)", x.span(0, 0, 480, 480), OUTSIDE);
        due("span(0, 0, 5, 4)", x.span(0, 0, 5, 4), OUTSIDE);
        due("span(0, 0, 5, 480)", x.span(0, 0, 5, 480), OUTSIDE);
        due("span(0, 2, 479, 479)", x.span(0, 2, 479, 479), 2);
        due("span(0, 1, 3, 4)", x.span(0, 1, 3, 4), 3);
        // booked at 0 for one minute each: minute 0 talks, 1 is shut, 2 talks, 3 and 4 are down, 5 talks
        for (int c = 0; c < 3; c++) {
            x.book(0, 1, 1, 0, 0);
        }
        x.go(6);
        due("told(0, 7)", x.told(0, 7), 0);
        due("told(1, 7)", x.told(1, 7), 2);
        due("told(2, 7)", x.told(2, 7), 5);
        for (int s = 4; s <= 30; s++) {
            due("span number " + s, x.span(0, 2, 100, 479), s);
        }
        due("span of 31", x.span(0, 2, 100, 479), FULL);
        due("span of 31 OUTSIDE", x.span(0, 2, 100, 99), OUTSIDE);
        due("span of 31 UNKNOWN", x.span(7, 2, 100, 100), UNKNOWN);
    }

    private static void hands() {
        promise = 4;
        TrunkRoom x = new TrunkRoom();
        due("hands(8, 10)", x.hands(8, 10), UNKNOWN);
        due("hands(-1, 0)", x.hands(-1, 0), UNKNOWN);
        due("hands(0, 10)", x.hands(0, 10), OUTSIDE);
        due("hands(0, -1)", x.hands(0, -1), OUTSIDE);
        due("hands(0, 1)", x.hands(0, 1), 3);
        due("hands(0, 0)", x.hands(0, 0), 1);
        due("hands(0, 9)", x.hands(0, 9), 0);
        due("hands(0, 1)", x.hands(0, 1), 9);
        for (int w = 0; w < 4; w++) {
            x.wire(0, 1, 10);
        }
        // one HAND at TOWN 0, three at TOWN 1: the HAND is that of the TOWN called from
        x.book(0, 1, 9, 0, 0);
        x.book(0, 1, 9, 0, 0);
        x.book(1, 0, 9, 0, 0);
        x.book(1, 0, 9, 0, 0);
        due("go(1)", x.go(1), 3);
        due("told(1, 6)", x.told(1, 6), 0);
        due("go(1)", x.go(1), 1);
        due("told(1, 7)", x.told(1, 7), 1);
    }

    private static void about() {
        promise = 5;
        TrunkRoom x = new TrunkRoom();
        due("about(0, 0) of no WIRE", x.about(0, 0), UNKNOWN);
        x.wire(0, 1, 10);
        x.wire(1, 2, 20);
        x.wire(0, 2, 40);
        due("about(-1, 9)", x.about(-1, 9), UNKNOWN);
        due("about(3, 0)", x.about(3, 0), UNKNOWN);
        due("about(0, 7)", x.about(0, 7), OUTSIDE);
        due("about(0, -1)", x.about(0, -1), OUTSIDE);
        due("about(2, 0)", x.about(2, 0), 0);
        due("about(2, 1)", x.about(2, 1), 2);
        due("about(2, 2)", x.about(2, 2), 40);
        due("about(2, 3)", x.about(2, 3), NONE);
        x.span(2, 2, 1, 3);
        x.span(2, 0, 1, 4);
        x.span(0, 1, 0, 0);
        due("about(0, 3)", x.about(0, 3), 1);
        due("about(2, 3)", x.about(2, 3), NONE);
        due("about(2, 4)", x.about(2, 4), NONE);
        x.book(0, 2, 2, 0, 0);
        x.go(1);
        due("about(2, 3)", x.about(2, 3), 2);
        due("about(2, 4)", x.about(2, 4), 0);
        due("about(0, 3)", x.about(0, 3), NONE);
        due("about(2, 6)", x.about(2, 6), 1);
        // cut in minute 1 before the fourth part: that minute is not talked
        x.go(1);
        due("about(2, 4)", x.about(2, 4), NONE);
        due("about(2, 6)", x.about(2, 6), 1);
        // no HAND: 0 to 2 waits; its first WAY is WIRE 2, which is not FREE till minute 5
        x.hands(0, 0);
        x.book(0, 2, 2, 0, 0);
        x.book(0, 1, 2, 2, 4);
        x.go(2);
        due("about(2, 5)", x.about(2, 5), 0);
        due("about(0, 5)", x.about(0, 5), 0);
        due("about(2, 3)", x.about(2, 3), 0);
        x.go(3);
        // NOW is 7: WIRE 2 was FREE in 5 and 6; WIRE 0 is wanted by the FIXED one from 4 on
        due("about(2, 5)", x.about(2, 5), 2);
        due("about(0, 5)", x.about(0, 5), 3);
        due("about(1, 5)", x.about(1, 5), 0);
        x.span(1, 1, 479, 479);
        x.go(200);
        x.go(200);
        x.go(72);
        due("count(0)", x.count(0), 479);
        due("about(1, 3)", x.about(1, 3), 1);
        x.go(1);
        due("about(1, 3) at the end", x.about(1, 3), NONE);
    }

    private static void count() {
        promise = 6;
        TrunkRoom x = new TrunkRoom();
        due("count(-1)", x.count(-1), OUTSIDE);
        due("count(16)", x.count(16), OUTSIDE);
        due("count(MOST)", x.count(MOST), OUTSIDE);
        due("count(LEAST)", x.count(LEAST), OUTSIDE);
        x.wire(0, 1, 10);
        x.wire(1, 2, 10);
        x.ticket(0, 1, 1, 1);
        x.ticket(0, 1, 1, 1);
        x.offer(0, 1, 1, 1);
        order(x, 0, "hold 9;");
        feed(x, "xyz");
        x.book(1, 2, 9, 0, 0);
        x.book(0, 1, 1, 0, 0);
        x.go(1);
        x.book(0, 2, 5, 0, 0);
        x.book(2, 1, 5, 0, 0);
        x.book(2, 1, 5, 0, 0);
        x.cancel(4);
        x.span(1, 0, 3, 3);
        x.go(1);
        due("count(4) HELD", x.count(4), 1);
        x.go(1);
        // minute 0: 0 and 1 talk. 1: 1 ended, 2 HELD, 3 waits. 2: the same.
        due("count(0)", x.count(0), 3);
        due("count(1)", x.count(1), 2);
        due("count(2)", x.count(2), 5);
        due("count(3)", x.count(3), 1);
        due("count(4)", x.count(4), 1);
        due("count(5)", x.count(5), 1);
        due("count(6)", x.count(6), 1);
        due("count(7)", x.count(7), 0);
        due("count(8)", x.count(8), 1);
        due("count(10)", x.count(10), 1);
        due("count(11)", x.count(11), 2);
        due("count(12)", x.count(12), 1);
        due("count(13)", x.count(13), 3);
        due("count(14)", x.count(14), 4);
        due("count(15)", x.count(15), 10);
        x.go(1);
        // minute 3: 0 is cut after three minutes: 10 less half
        due("count(7)", x.count(7), 1);
        due("count(15)", x.count(15), 15);
        due("count(14)", x.count(14), 6);
    }

    private static void book() {
        promise = 7;
        TrunkRoom x = new TrunkRoom();
        due("book(0, 7, 1, 0, -5)", x.book(0, 7, 1, 0, -5), 0);
        due("book(7, 0, 60, 1, 999)", x.book(7, 0, 60, 1, 999), 1);
        due("book(0, 1, 5, 2, 479)", x.book(0, 1, 5, 2, 479), 2);
        due("book(0, 1, 5, 2, 0)", x.book(0, 1, 5, 2, 0), 3);
        due("book(8, 8, 0, 9, 0)", x.book(8, 8, 0, 9, 0), UNKNOWN);
        due("book(0, -1, 5, 0, 0)", x.book(0, -1, 5, 0, 0), UNKNOWN);
        due("book(2, 2, 5, 0, 0)", x.book(2, 2, 5, 0, 0), OUTSIDE);
        due("book(2, 3, 0, 0, 0)", x.book(2, 3, 0, 0, 0), OUTSIDE);
        due("book(2, 3, 61, 0, 0)", x.book(2, 3, 61, 0, 0), OUTSIDE);
        due("book(2, 3, 5, -1, 0)", x.book(2, 3, 5, -1, 0), OUTSIDE);
        due("book(2, 3, 5, 3, 0)", x.book(2, 3, 5, 3, 0), OUTSIDE);
        due("book(2, 3, 5, 2, -1)", x.book(2, 3, 5, 2, -1), OUTSIDE);
        due("book(2, 3, 5, 2, 480)", x.book(2, 3, 5, 2, 480), OUTSIDE);
        x.go(10);
        due("book(2, 3, 5, 2, 9)", x.book(2, 3, 5, 2, 9), OUTSIDE);
        due("book(2, 3, 5, 2, 10)", x.book(2, 3, 5, 2, 10), 4);
        due("told(4, 5)", x.told(4, 5), 10);
        due("count(2)", x.count(2), 5);
        for (int c = 5; c < 40; c++) {
            due("CALL number " + c, x.book(4, 5, 5, 0, 0), c);
        }
        due("book of 41", x.book(4, 5, 5, 0, 0), FULL);
        due("book of 41 OUTSIDE", x.book(4, 5, 0, 0, 0), OUTSIDE);
        due("book of 41 UNKNOWN", x.book(4, 9, 5, 0, 0), UNKNOWN);
        x.go(200);
        x.go(200);
        x.go(70);
        due("book(4, 5, 5, 0, 0) at 480", x.book(4, 5, 5, 0, 0), NOT);
        due("book(4, 5, 5, 2, 480) at 480", x.book(4, 5, 5, 2, 480), OUTSIDE);
        due("count(2)", x.count(2), 40);
        // from its MINUTE on a FIXED one is looked at, not before
        TrunkRoom y = new TrunkRoom();
        y.wire(0, 1, 10);
        y.book(0, 1, 2, 2, 3);
        due("go(3)", y.go(3), 0);
        due("told(0, 9)", y.told(0, 9), 0);
        due("go(1)", y.go(1), 1);
        due("told(0, 7)", y.told(0, 7), 3);
    }

    private static void cancel() {
        promise = 8;
        TrunkRoom x = new TrunkRoom();
        due("cancel(0) of no CALL", x.cancel(0), UNKNOWN);
        x.wire(0, 1, 10);
        x.wire(1, 2, 10);
        order(x, 0, "hold 60;");
        x.book(1, 2, 3, 0, 0);
        x.go(1);
        x.book(0, 2, 5, 0, 0);
        x.book(0, 1, 5, 0, 0);
        x.go(1);
        due("told(1, 6) HELD", x.told(1, 6), 1);
        due("cancel(-1)", x.cancel(-1), UNKNOWN);
        due("cancel(3)", x.cancel(3), UNKNOWN);
        due("cancel(0) TALKING", x.cancel(0), NOT);
        due("told(0, 6)", x.told(0, 6), 2);
        due("cancel(1) HELD", x.cancel(1), 1);
        due("about(0, 4)", x.about(0, 4), NONE);
        due("told(1, 6)", x.told(1, 6), 5);
        due("told(1, 8)", x.told(1, 8), 2);
        due("told(1, 9)", x.told(1, 9), 1);
        due("told(1, 11)", x.told(1, 11), 0);
        due("told(1, 13)", x.told(1, 13), NONE);
        due("way(1, 0)", x.way(1, 0), NONE);
        due("cancel(1) CANCELLED", x.cancel(1), NOT);
        // the WIRE that it had is there for the next one in this very MINUTE
        due("go(1)", x.go(1), 1);
        due("told(2, 7)", x.told(2, 7), 2);
        x.go(10);
        due("cancel(2) ENDED", x.cancel(2), NOT);
        due("told(1, 12)", x.told(1, 12), 0);
        x.book(0, 1, 5, 2, 200);
        due("cancel(3) WAITING for its MINUTE", x.cancel(3), 1);
        x.book(5, 6, 5, 0, 0);
        x.go(200);
        x.go(200);
        x.go(67);
        due("cancel(4) at 480", x.cancel(4), 1);
        due("told(4, 8)", x.told(4, 8), 480);
    }

    private static void again() {
        promise = 9;
        TrunkRoom x = new TrunkRoom();
        due("again(0) of no CALL", x.again(0), UNKNOWN);
        x.wire(0, 1, 10);
        x.span(0, 0, 4, 4);
        x.book(0, 1, 10, 1, 0);
        x.book(1, 0, 60, 2, 3);
        due("again(0) WAITING", x.again(0), NOT);
        x.go(1);
        due("again(0) TALKING", x.again(0), NOT);
        x.go(4);
        due("told(0, 6)", x.told(0, 6), 4);
        due("told(0, 8)", x.told(0, 8), 4);
        due("again(-1)", x.again(-1), UNKNOWN);
        due("again(2)", x.again(2), UNKNOWN);
        due("again(0)", x.again(0), 2);
        due("told(2, 0)", x.told(2, 0), 0);
        due("told(2, 1)", x.told(2, 1), 1);
        due("told(2, 2)", x.told(2, 2), 6);
        due("told(2, 3)", x.told(2, 3), 0);
        due("told(2, 4)", x.told(2, 4), NONE);
        due("told(2, 5)", x.told(2, 5), 5);
        due("told(2, 6)", x.told(2, 6), 0);
        // told 6 times one that waits, by 1 and one WIRE
        due("told(2, 10)", x.told(2, 10), 3);
        due("again(0) once more", x.again(0), NOT);
        due("told(0, 6)", x.told(0, 6), 4);
        // a CUT one when there are 40 CALLS: FULL; it may be booked later, but there is no room
        x.span(0, 0, 20, 20);
        x.go(15);
        due("told(1, 6)", x.told(1, 6), 2);
        for (int c = 3; c < 40; c++) {
            x.book(2, 3, 1, 0, 0);
        }
        x.go(1);
        due("told(1, 6)", x.told(1, 6), 4);
        due("again(1) of 41", x.again(1), FULL);
        due("again(0) of 41", x.again(0), NOT);
        due("count(2)", x.count(2), 40);
        TrunkRoom y = new TrunkRoom();
        y.wire(0, 1, 10);
        y.span(0, 0, 479, 479);
        y.book(0, 1, 60, 2, 470);
        y.go(200);
        y.go(200);
        y.go(80);
        due("told(0, 8)", y.told(0, 8), 479);
        due("again(0) at 480", y.again(0), NOT);
    }

    private static void told() {
        promise = 10;
        TrunkRoom x = new TrunkRoom();
        due("told(0, 0) of no CALL", x.told(0, 0), UNKNOWN);
        x.wire(3, 4, 10);
        x.wire(4, 3, 20);
        x.book(3, 4, 7, 0, 0);
        x.book(4, 3, 8, 2, 5);
        x.book(3, 4, 9, 1, 0);
        due("told(-1, 99)", x.told(-1, 99), UNKNOWN);
        due("told(3, 0)", x.told(3, 0), UNKNOWN);
        due("told(0, -1)", x.told(0, -1), OUTSIDE);
        due("told(0, 14)", x.told(0, 14), OUTSIDE);
        int[] first = {3, 4, 7, 0, NONE, 0, 0, NONE, NONE, 0, 0, 0, 0, NONE};
        // 6 times one by 3; 6 times two by 3 (that before its MINUTE waits too)
        int[] second = {4, 3, 8, 2, 5, 0, 0, NONE, NONE, 0, 2, 0, 0, NONE};
        int[] third = {3, 4, 9, 1, NONE, 0, 0, NONE, NONE, 0, 4, 0, 0, NONE};
        for (int what = 0; what <= 13; what++) {
            due("told(0, " + what + ")", x.told(0, what), first[what]);
            due("told(1, " + what + ")", x.told(1, what), second[what]);
            due("told(2, " + what + ")", x.told(2, what), third[what]);
        }
        x.go(7);
        x.go(1);
        // FIRST goes ahead and has WIRE 0; the plain one WIRE 1, ended in 7, when the FIXED one begins
        int[] ended = {3, 4, 7, 0, NONE, 0, 3, 0, 7, 0, 0, 1, 30, 20};
        int[] late = {4, 3, 8, 2, 5, 0, 2, 7, NONE, 2, 2, 1, 0, 20};
        int[] talks = {3, 4, 9, 1, NONE, 0, 2, 0, NONE, 0, 4, 1, 0, 10};
        for (int what = 0; what <= 13; what++) {
            due("told(0, " + what + ") later", x.told(0, what), ended[what]);
            due("told(1, " + what + ") later", x.told(1, what), late[what]);
            due("told(2, " + what + ") later", x.told(2, what), talks[what]);
        }
        // only those of the same two TOWNS are waited for
        x.book(3, 5, 5, 0, 0);
        x.book(5, 4, 5, 0, 0);
        x.book(5, 3, 5, 0, 0);
        due("told(3, 10)", x.told(3, 10), 0);
        due("told(4, 10)", x.told(4, 10), 0);
        due("told(5, 10)", x.told(5, 10), 6);
        // told by the ORDER of the MINUTE of booking
        order(x, 9, "told 99;");
        x.book(0, 1, 5, 0, 0);
        x.book(1, 0, 5, 0, 0);
        due("told(7, 10)", x.told(7, 10), 6);
        x.go(1);
        x.book(0, 1, 5, 0, 0);
        due("told(8, 10)", x.told(8, 10), 198);
    }

    private static void charges() {
        promise = 10;
        TrunkRoom x = new TrunkRoom();
        order(x, 0, "charge 7 to 60;charge 21 to 200;charge 8 to 60;night 0 to 1 by 90; night 0 to 0 by 33;");
        order(x, 0, "grace 1; back 30;");
        x.wire(0, 1, 60);
        x.wire(2, 3, 61);
        x.wire(4, 5, 201);
        x.wire(6, 7, 200);
        x.book(0, 1, 4, 0, 0);
        x.book(2, 3, 7, 1, 0);
        x.book(4, 5, 1, 0, 0);
        x.book(6, 7, 1, 0, 0);
        x.go(1);
        x.book(4, 5, 60, 0, 0);
        x.hands(6, 0);
        x.book(6, 7, 1, 2, 1);
        x.book(7, 6, 1, 2, 1);
        x.go(1);
        x.span(2, 1, 5, 5);
        x.go(1);
        x.hands(6, 3);
        x.go(4);
        x.go(1);
        // 2 begun threes of 8 by 33: 16 * 33 / 100 = 5
        due("told(0, 12)", x.told(0, 12), 5);
        // 3 of 21 by 33: 2079 / 100 = 20, twice
        due("told(1, 12)", x.told(1, 12), 40);
        // none holds so many MILES: 10 by 33 = 3
        due("told(2, 12)", x.told(2, 12), 3);
        // 200 MILES are still of 21: 693 / 100 = 6
        due("told(3, 12)", x.told(3, 12), 6);
        // began in 1 by 90, cut in 5 after four minutes: 2 of 10 by 90 = 18, less 30 in a hundred (5)
        due("told(4, 6)", x.told(4, 6), 4);
        due("told(4, 12)", x.told(4, 12), 13);
        // FIXED for 1, began in 3, behind 1 and grace: half of 21; the other one in 1: all of 21 by 90 = 18
        due("told(5, 7)", x.told(5, 7), 3);
        due("told(5, 12)", x.told(5, 12), 10);
        due("told(6, 7)", x.told(6, 7), 1);
        due("told(6, 12)", x.told(6, 12), 18);
        due("count(15)", x.count(15), 5 + 40 + 3 + 6 + 13 + 10 + 18);
        // began in its MINUTE and grace: no half
        TrunkRoom y = new TrunkRoom();
        y.wire(0, 1, 10);
        y.hands(0, 0);
        y.book(0, 1, 1, 2, 0);
        y.go(5);
        y.hands(0, 1);
        y.go(2);
        due("told(0, 7)", y.told(0, 7), 5);
        due("told(0, 12)", y.told(0, 12), 10);
        // by the ORDERS of the MINUTE in which it began
        TrunkRoom z = new TrunkRoom();
        z.wire(0, 1, 10);
        z.span(0, 0, 20, 20);
        order(z, 0, "charge 3 to 900;back 0;");
        order(z, 5, "charge 7 to 900;back 100;");
        z.go(4);
        z.book(0, 1, 5, 0, 0);
        z.book(0, 1, 5, 0, 0);
        z.go(11);
        due("told(0, 12)", z.told(0, 12), 6);
        due("told(1, 12)", z.told(1, 12), 14);
        z.book(0, 1, 9, 0, 0);
        order(z, 14, "back 40;strike 0;");
        order(z, 3, "charge 8 to 40;");
        z.go(6);
        // of 8 and 7 that with the fewer MILES counts, for what is past too: 2 of 8 less 40 in a hundred (6)
        due("told(2, 12)", z.told(2, 12), 16 - 6);
        due("told(0, 12)", z.told(0, 12), 16);
        // three minutes are one three, a fourth begins the next
        y.book(0, 1, 3, 0, 0);
        y.go(3);
        y.book(0, 1, 4, 0, 0);
        y.go(5);
        due("told(1, 12)", y.told(1, 12), 10);
        due("told(2, 12)", y.told(2, 12), 20);
    }

    private static void way() {
        promise = 11;
        TrunkRoom x = new TrunkRoom();
        due("way(0, 0) of no CALL", x.way(0, 0), UNKNOWN);
        x.wire(1, 2, 10);
        x.wire(0, 1, 10);
        order(x, 0, "hold 2;");
        x.book(1, 2, 2, 0, 0);
        x.go(1);
        x.book(2, 0, 3, 0, 0);
        x.book(0, 2, 3, 0, 0);
        due("way(1, 0) WAITING", x.way(1, 0), NONE);
        x.go(1);
        due("told(2, 6)", x.told(2, 6), 1);
        due("told(2, 11)", x.told(2, 11), 1);
        due("told(2, 13)", x.told(2, 13), 20);
        due("way(2, 0)", x.way(2, 0), 1);
        due("way(2, 1)", x.way(2, 1), 0);
        due("way(2, 2)", x.way(2, 2), NONE);
        due("way(2, -1)", x.way(2, -1), NONE);
        due("way(2, MOST)", x.way(2, MOST), NONE);
        due("way(2, LEAST)", x.way(2, LEAST), NONE);
        due("way(1, 0) WAITING", x.way(1, 0), NONE);
        due("way(-1, 0)", x.way(-1, 0), UNKNOWN);
        due("way(3, 0)", x.way(3, 0), UNKNOWN);
        // minute 2: 0 ended; 1 (the lesser number) takes WIRE 0 and is HELD, for WIRE 1 is held by 2
        x.go(1);
        due("told(1, 11)", x.told(1, 11), 1);
        due("way(1, 0)", x.way(1, 0), 0);
        due("way(1, 1)", x.way(1, 1), 1);
        // minute 3: a RING; 2 goes back, 1 talks
        x.go(1);
        due("way(2, 0)", x.way(2, 0), NONE);
        due("told(1, 6)", x.told(1, 6), 2);
        due("count(9)", x.count(9), 1);
        x.go(20);
        due("way(1, 1) ENDED", x.way(1, 1), 1);
        due("way(0, 0) ENDED", x.way(0, 0), 0);
        due("told(1, 11) ENDED", x.told(1, 11), 2);
    }

    private static void ways() {
        promise = 12;
        TrunkRoom x = new TrunkRoom();
        x.wire(0, 1, 20);
        x.wire(1, 2, 20);
        x.wire(0, 2, 100);
        x.wire(1, 0, 20);
        x.wire(2, 3, 5);
        x.wire(3, 0, 4);
        x.wire(1, 3, 1);
        x.offer(0, 2, 1, 1);
        x.span(2, 0, 0, 479);
        // by one: 2. by two: 5 4 (9), 0 1 and 3 1 (40). by three: 5 6 1 (25), 0 6 4 and 3 6 4 (26)
        int[][] due = {{2}, {5, 4}, {0, 1}, {3, 1}, {5, 6, 1}, {0, 6, 4}, {3, 6, 4}};
        int[] miles = {100, 9, 40, 40, 25, 26, 26};
        int[] many = {0, 1, 4, 7};
        for (int n = 1; n <= 3; n++) {
            for (int i = 0; i < 9; i++) {
                for (int j = -2; j < 4; j++) {
                    int want = i >= many[n] ? NONE : j == NONE ? miles[i] : j >= 0 && j < due[i].length ? due[i][j] : NONE;
                    due("ways(0, 2, " + n + ", " + i + ", " + j + ")", x.ways(0, 2, n, i, j), want);
                }
            }
        }
        // the other way round, by the WIRES as they follow from there: 1 0 before 1 3
        due("ways(2, 0, 2, 2, 1)", x.ways(2, 0, 2, 2, 1), 0);
        due("ways(2, 0, 2, 3, 1)", x.ways(2, 0, 2, 3, 1), 3);
        due("ways(2, 0, 3, 4, 0)", x.ways(2, 0, 3, 4, 0), 1);
        due("ways(0, 2, 3, -1, 0)", x.ways(0, 2, 3, -1, 0), NONE);
        due("ways(0, 2, 3, MOST, MOST)", x.ways(0, 2, 3, MOST, MOST), NONE);
        due("ways(0, 2, 3, LEAST, LEAST)", x.ways(0, 2, 3, LEAST, LEAST), NONE);
        due("ways(0, 7, 3, 0, -1)", x.ways(0, 7, 3, 0, -1), NONE);
        due("ways(8, 8, 0, 0, 0)", x.ways(8, 8, 0, 0, 0), UNKNOWN);
        due("ways(0, -1, 1, 0, 0)", x.ways(0, -1, 1, 0, 0), UNKNOWN);
        due("ways(2, 2, 1, 0, 0)", x.ways(2, 2, 1, 0, 0), OUTSIDE);
        due("ways(0, 2, 0, 0, 0)", x.ways(0, 2, 0, 0, 0), OUTSIDE);
        due("ways(0, 2, 4, 0, 0)", x.ways(0, 2, 4, 0, 0), OUTSIDE);
        x.wire(0, 2, 99);
        due("ways(0, 2, 1, 0, 0) with a new one", x.ways(0, 2, 1, 0, 0), 7);
    }

    private static void go() {
        promise = 13;
        TrunkRoom x = new TrunkRoom();
        due("go(-1)", x.go(-1), OUTSIDE);
        due("go(201)", x.go(201), OUTSIDE);
        due("go(MOST)", x.go(MOST), OUTSIDE);
        due("go(0)", x.go(0), 0);
        x.wire(0, 1, 10);
        x.wire(1, 2, 10);
        x.wire(2, 3, 10);
        x.book(0, 3, 1, 0, 0);
        x.book(0, 2, 2, 0, 0);
        x.book(1, 2, 1, 0, 0);
        // two WIRES at most: 0 to 3 has no WAY; 1 to 2 must wait for 0 to 2
        due("go(2)", x.go(2), 1);
        due("told(2, 6)", x.told(2, 6), 0);
        due("go(1)", x.go(1), 1);
        order(x, 3, "ways 3;");
        due("go(2)", x.go(2), 1);
        due("told(0, 7)", x.told(0, 7), 3);
        due("told(0, 8)", x.told(0, 8), 4);
        due("told(0, 9)", x.told(0, 9), 3);
        due("go(200)", x.go(200), 0);
        due("go(200)", x.go(200), 0);
        due("go(76)", x.go(76), NOT);
        due("go(201)", x.go(201), OUTSIDE);
        due("count(0)", x.count(0), 405);
        due("go(74)", x.go(74), 0);
        x.book(0, 1, 1, 0, 0);
        due("go(1)", x.go(1), 1);
        due("go(0)", x.go(0), 0);
        due("go(1)", x.go(1), NOT);
        due("told(3, 6)", x.told(3, 6), 2);
        byNext("next short;", new int[] {2, 1, 3, 0});
        byNext("next far, short;", new int[] {3, 2, 1, 0});
        byNext("next first, booked;", new int[] {1, 0, 2, 3});
        byNext("next fixed, far;", new int[] {0, 3, 1, 2});
        byNext("next booked;", new int[] {0, 1, 2, 3});
        byNext("next short, first; next booked, far;", new int[] {0, 3, 1, 2});
    }

    /** Four CALLS from TOWN 0, which has one HAND: which begins in which MINUTE. */
    private static void byNext(String text, int[] due) {
        TrunkRoom x = new TrunkRoom();
        order(x, 0, text);
        x.hands(0, 0);
        x.wire(0, 1, 20);
        x.wire(0, 2, 20);
        x.wire(0, 3, 10);
        x.wire(0, 4, 30);
        x.book(0, 3, 9, 2, 0);
        x.go(1);
        x.book(0, 1, 8, 1, 0);
        x.book(0, 2, 5, 0, 0);
        x.book(0, 4, 8, 0, 0);
        x.hands(0, 1);
        x.go(5);
        for (int k = 0; k < 4; k++) {
            due("told(" + due[k] + ", 7) by " + text, x.told(due[k], 7), 1 + k);
        }
    }

    private static void holding() {
        promise = 13;
        TrunkRoom x = new TrunkRoom();
        x.wire(0, 1, 10);
        x.wire(1, 2, 10);
        x.wire(2, 3, 10);
        order(x, 0, "ways 3; hold 3;");
        x.book(2, 3, 6, 0, 0);
        x.book(1, 2, 3, 0, 0);
        x.go(1);
        x.book(0, 3, 9, 0, 0);
        x.go(2);
        due("told(2, 11)", x.told(2, 11), 1);
        x.go(1);
        // minute 3: WIRE 1 is FREE again and taken too
        due("told(2, 11)", x.told(2, 11), 2);
        x.go(2);
        due("told(2, 6) in 5", x.told(2, 6), 1);
        due("told(2, 9)", x.told(2, 9), 5);
        // minute 6: WIRE 2 is FREE: talks, a whole hold behind 3
        due("go(1)", x.go(1), 1);
        due("told(2, 7)", x.told(2, 7), 6);
        TrunkRoom y = new TrunkRoom();
        y.wire(0, 1, 10);
        y.wire(1, 2, 10);
        order(y, 0, "hold 2;");
        y.book(1, 2, 60, 0, 0);
        y.go(1);
        y.book(0, 2, 9, 0, 0);
        y.book(0, 1, 1, 0, 0);
        y.go(1);
        due("told(1, 6) in 1", y.told(1, 6), 1);
        y.hands(0, 0);
        y.go(3);
        // without a HAND it is not even put back
        due("told(1, 6) in 4", y.told(1, 6), 1);
        y.hands(0, 1);
        y.go(1);
        // minute 5: put back, which takes no HAND: the one HAND puts 0 to 1 through
        due("told(1, 6) in 5", y.told(1, 6), 0);
        due("told(2, 7)", y.told(2, 7), 5);
        due("told(1, 9)", y.told(1, 9), 5);
        y.go(1);
        due("told(1, 6) in 6", y.told(1, 6), 1);
        // a HELD one's WIRE goes down: it waits again
        y.span(0, 1, 7, 8);
        y.go(1);
        due("told(1, 6) in 7", y.told(1, 6), 0);
        due("about(0, 4)", y.about(0, 4), NONE);
        // a first WIRE that is not FREE, or a later one not USABLE: nothing is held
        TrunkRoom z = new TrunkRoom();
        z.wire(0, 1, 10);
        z.wire(1, 2, 10);
        order(z, 0, "hold 2;");
        z.span(1, 2, 0, 1);
        z.book(0, 2, 9, 0, 0);
        z.go(2);
        due("told(0, 6)", z.told(0, 6), 0);
        z.go(1);
        due("told(0, 7)", z.told(0, 7), 2);
    }

    private static void handsTaken() {
        promise = 13;
        TrunkRoom x = new TrunkRoom();
        x.wire(0, 1, 10);
        x.wire(1, 2, 10);
        x.wire(0, 4, 10);
        order(x, 0, "hold 9;");
        x.hands(0, 1);
        x.book(1, 2, 3, 0, 0);
        x.go(1);
        x.book(0, 2, 9, 0, 0);
        x.go(2);
        x.book(0, 5, 9, 1, 0);
        x.book(0, 4, 9, 0, 0);
        // minute 3: 0 to 5 has no WAY and takes no HAND, the HELD one takes it with its next WIRE
        due("go(1)", x.go(1), 1);
        due("told(1, 7)", x.told(1, 7), 3);
        due("told(3, 6)", x.told(3, 6), 0);
        due("go(1)", x.go(1), 1);
        due("told(3, 7)", x.told(3, 7), 4);
        // hold 1: HELD in 1, put back in 2, HELD in 3; with hold 0 from 4 on it is put back and not HELD
        TrunkRoom y = new TrunkRoom();
        y.wire(0, 1, 10);
        y.wire(1, 2, 10);
        order(y, 0, "hold 1;");
        order(y, 4, "hold 0;");
        y.book(1, 2, 9, 0, 0);
        y.go(1);
        y.book(0, 2, 9, 0, 0);
        int[] states = {1, 0, 1, 0, 0, 0};
        for (int state : states) {
            y.go(1);
            due("told(1, 6) in " + (y.count(0) - 1), y.told(1, 6), state);
        }
    }

    private static TrunkRoom ring() {
        TrunkRoom x = new TrunkRoom();
        x.wire(0, 1, 10);
        x.wire(1, 2, 10);
        order(x, 0, "hold 60;");
        x.book(1, 2, 2, 0, 0);
        x.go(1);
        x.book(0, 2, 5, 0, 0);
        x.go(1);
        x.book(2, 0, 5, 1, 0);
        x.go(1);
        return x;
    }

    private static void rings() {
        promise = 13;
        TrunkRoom x = ring();
        due("told(1, 6)", x.told(1, 6), 1);
        due("told(2, 6)", x.told(2, 6), 1);
        due("count(9)", x.count(9), 0);
        // minute 3: the plain one is the last by next and lets go
        due("go(1)", x.go(1), 1);
        due("count(9)", x.count(9), 1);
        due("told(1, 6)", x.told(1, 6), 0);
        due("told(2, 7)", x.told(2, 7), 3);
        x.go(10);
        due("told(1, 7)", x.told(1, 7), 8);
        due("told(1, 9)", x.told(1, 9), 7);
        due("told(2, 9)", x.told(2, 9), 1);
    }

    private static void wrong() {
        promise = 14;
        TrunkRoom x = ring();
        due("wrong(-1)", x.wrong(-1), OUTSIDE);
        due("wrong(3)", x.wrong(3), OUTSIDE);
        // HELD ones do not count
        due("wrong(0)", x.wrong(0), 0);
        due("wrong(2)", x.wrong(2), 1);
        x.go(1);
        // told 6, WAITED 1
        due("wrong(0)", x.wrong(0), 5);
        due("wrong(1)", x.wrong(1), 5);
        due("wrong(2)", x.wrong(2), 2);
        x.span(0, 0, 9, 9);
        x.go(6);
        // the other one began in 8, is cut in 9: told 0, WAITED 7
        due("told(1, 6)", x.told(1, 6), 4);
        due("wrong(0)", x.wrong(0), 12);
        due("wrong(1)", x.wrong(1), 7);
        due("wrong(2)", x.wrong(2), 3);
    }

    private static void feedBytes() {
        promise = 15;
        TrunkRoom x = new TrunkRoom();
        due("feed(0, 1)", x.feed(0, 1), OUTSIDE);
        due("feed(9, 1)", x.feed(9, 1), OUTSIDE);
        due("feed(LEAST, 1)", x.feed(LEAST, 1), OUTSIDE);
        // the lowest three bytes, the highest of them first; what stands above is not looked at
        due("feed(3, ..)", x.feed(3, 0xFFFFFFFFFF000000L | 'h' << 16 | 'o' << 8 | 'l'), 3);
        due("feed(8, ..)", x.feed(8, 0x642031203B202020L), 11);
        due("order(0)", x.order(0), 0);
        due("force(0, 1)", x.force(0, 1), 1);
        for (int i = 1; i <= 19; i++) {
            due("feed(8, ' ')", x.feed(8, 0x2020202020202020L), 8 * i);
        }
        due("feed(8, 0) of 152", x.feed(8, 0x2020202020202020L), 160);
        due("feed(1, 0) of 160", x.feed(1, 0), FULL);
        due("feed(9, 0) of 160", x.feed(9, 0), OUTSIDE);
        due("count(13)", x.count(13), 160);
        due("order(0) of blanks", x.order(0), 1);
        for (int i = 0; i < 22; i++) {
            x.feed(7, 0x20202020202020L);
        }
        due("feed(7, ..) of 154", x.feed(7, 0), FULL);
        due("count(13)", x.count(13), 154);
        due("feed(6, ..) of 154", x.feed(6, 0x2020202020FFL), 160);
        due("order(0)", x.order(0), -11);
        due("fault()", x.fault(), 159);
    }

    private static void orders() {
        promise = 16;
        TrunkRoom x = new TrunkRoom();
        feed(x, "hold 3;");
        due("order(-1)", x.order(-1), OUTSIDE);
        due("order(480)", x.order(480), OUTSIDE);
        due("count(13)", x.count(13), 7);
        due("order(479)", x.order(479), 0);
        due("count(13)", x.count(13), 0);
        due("force(478, 1)", x.force(478, 1), 0);
        due("force(479, 1)", x.force(479, 1), 3);
        due("order 1", order(x, 0, "hold 4;"), 1);
        due("order 2", order(x, 0, ""), 2);
        due("a faulty one", order(x, 0, "hold"), -11);
        due("order 3", order(x, 0, " "), 3);
        due("order 4", order(x, 0, "strike 3;strike 0;"), 4);
        due("order 5", order(x, 0, "back 0;"), 5);
        feed(x, "hold");
        due("order(0) of 7", x.order(0), FULL);
        due("order(480) of 7", x.order(480), OUTSIDE);
        due("count(13)", x.count(13), 4);
        due("count(10)", x.count(10), 6);
        due("fault()", x.fault(), NONE);
        sound("next fixed,first,booked,short,far;");
        sound("next far ;ways1;hold 0;hold 60;grace 0;grace 60;told 0;told 99;back 0;back100;");
        sound("ways 3;charge0to1;charge 999 to 999;night0to0by0;night 479 to 479 by 100;  ");
        sound("  next   far  ,  short  ;  night  1to2by3  ;");
        sound("hold 0007;hold 0060;");
        sound("hold 1;hold 1;hold 1;hold 1;hold 1;hold 1;hold 1;hold 1;hold 1;hold 1; ");
    }

    private static void fault() {
        promise = 17;
        faulty("hold", 1, 4);
        faulty("hold 5", 1, 6);
        faulty("hold 5  ", 1, 8);
        faulty("hold 5;;", 1, 7);
        faulty(";", 1, 0);
        faulty("5;", 1, 0);
        faulty(" holds 5;", 1, 1);
        faulty("nextfar;", 1, 0);
        faulty("Next far;", 1, 0);
        faulty("nextFar;", 1, 4);
        faulty("next;", 1, 4);
        faulty("next far,;", 1, 9);
        faulty("next far short;", 1, 9);
        faulty("next far,ways;", 1, 9);
        faulty("next farr;", 1, 5);
        faulty("next 5;", 1, 5);
        faulty("far;", 1, 0);
        faulty("hold far;", 1, 5);
        faulty("hold -5;", 1, 5);
        faulty("hold 5 5;", 1, 7);
        faulty("hold\t5;", 1, 4);
        faulty("hold \u00e95;", 1, 5);
        faulty("hold 5,", 1, 6);
        faulty("charge 5 5;", 1, 9);
        faulty("charge 5 by 5;", 1, 9);
        faulty("charge 5to;", 1, 10);
        faulty("night 5to6;", 1, 10);
        faulty("night 5to6to7;", 1, 10);
        faulty("12345;", 1, 0);
        faulty("hold 5 99999;", 1, 7);
        faulty("ways 0;", 2, 5);
        faulty("ways 4;", 2, 5);
        faulty("hold 61;", 2, 5);
        faulty("grace 61;", 2, 6);
        faulty("told 100;", 2, 5);
        faulty("back 101;", 2, 5);
        faulty("hold 00005;", 2, 5);
        faulty("hold 99999999999999;", 2, 5);
        faulty("hold 61 !", 2, 5);
        faulty("charge 1000 to 5;", 2, 7);
        faulty("charge 5 to 0;", 2, 12);
        faulty("charge 5 to 1000;", 2, 12);
        faulty("night 480 to 481 by 5;", 2, 6);
        faulty("night 5 to 4 by 5;", 2, 11);
        faulty("night 5 to 480 by 5;", 2, 11);
        faulty("night 5 to 5 by 101;", 2, 16);
        faulty("strike 10000;", 2, 7);
        faulty("strike 0;", 3, 7);
        faulty("strike 9999;", 3, 7);
        faulty("strike 0", 3, 7);
        faulty("next far,far;", 4, 9);
        faulty("next far,short,fixed,first,booked,far", 4, 34);
        faulty("hold 1;hold 1;hold 1;hold 1;hold 1;hold 1;hold 1;hold 1;hold 1;hold 1; hold 1;", 5, 71);
        faulty("hold 1;hold 1;hold 1;hold 1;hold 1;hold 1;hold 1;hold 1;hold 1;hold 1; held 1;", 1, 71);
        TrunkRoom x = new TrunkRoom();
        order(x, 0, "hold 61;");
        due("fault()", x.fault(), 5);
        due("order(-1)", x.order(-1), OUTSIDE);
        due("fault() after a refusal", x.fault(), 5);
        due("strike of itself", order(x, 0, "strike 0;"), -13);
        due("order(0)", order(x, 0, "hold 6;"), 0);
        due("fault() after a good one", x.fault(), NONE);
        due("strike", order(x, 0, "strike 0;"), 1);
        due("strike of itself", order(x, 0, " strike 2;"), -13);
        due("fault()", x.fault(), 8);
    }

    private static void force() {
        promise = 18;
        TrunkRoom x = new TrunkRoom();
        int[] atFirst = {2, 0, 5, 6, 50, 3, 0, 1, 2, NONE, NONE};
        for (int what = 0; what <= 10; what++) {
            due("force(7, " + what + ")", x.force(7, what), atFirst[what]);
        }
        due("force(7, 21)", x.force(7, 21), 10);
        due("force(7, 920)", x.force(7, 920), 10);
        due("force(7, 1000)", x.force(7, 1000), 100);
        int[] outside = {LEAST, -1, 11, 20, 921, 999, 1001, MOST};
        for (int what : outside) {
            due("force(7, " + what + ")", x.force(7, what), OUTSIDE);
        }
        due("force(-1, 0)", x.force(-1, 0), OUTSIDE);
        due("force(480, 0)", x.force(480, 0), OUTSIDE);
        order(x, 10, "ways 1;hold 2;grace 3;told 4;back 5;next far,short,booked,first,fixed;night 11 to 12 by 7;");
        order(x, 10, "charge 1 to 100; charge 2 to 50; charge 3 to 50; charge 4 to 900;");
        int[] later = {1, 2, 3, 4, 5, 5, 4, 3, 2, 1, 0};
        for (int what = 0; what <= 10; what++) {
            due("force(9, " + what + ")", x.force(9, what), atFirst[what]);
            due("force(10, " + what + ")", x.force(10, what), later[what]);
            due("force(479, " + what + ")", x.force(479, what), later[what]);
        }
        due("force(10, 21)", x.force(10, 21), 3);
        due("force(10, 70)", x.force(10, 70), 3);
        due("force(10, 71)", x.force(10, 71), 1);
        due("force(10, 120)", x.force(10, 120), 1);
        due("force(10, 121)", x.force(10, 121), 4);
        due("force(10, 920)", x.force(10, 920), 4);
        due("force(10, 1000)", x.force(10, 1000), 100);
        due("force(11, 1000)", x.force(11, 1000), 7);
        due("force(12, 1000)", x.force(12, 1000), 7);
        due("force(13, 1000)", x.force(13, 1000), 100);
    }

    private static void counting() {
        promise = 18;
        // by MINUTES, then numbers
        TrunkRoom x = new TrunkRoom();
        order(x, 20, "hold 1;charge 1 to 9;night 0 to 479 by 1;");
        order(x, 10, "hold 2;charge 2 to 9;night 0 to 479 by 2;");
        order(x, 20, "hold 3;");
        due("force(9, 1)", x.force(9, 1), 0);
        due("force(10, 1)", x.force(10, 1), 2);
        due("force(20, 1)", x.force(20, 1), 3);
        due("force(20, 29)", x.force(20, 29), 1);
        due("force(20, 30)", x.force(20, 30), 10);
        due("force(20, 1000)", x.force(20, 1000), 1);
        due("force(19, 1000)", x.force(19, 1000), 2);
        // 3 strikes 2 from 30 on, 4 strikes 3 from 40 on, 5 strikes 4 from 35 on: then 4 never counts
        order(x, 30, "strike 2; hold 4;");
        due("force(29, 1)", x.force(29, 1), 3);
        due("force(30, 1)", x.force(30, 1), 4);
        order(x, 40, "strike 3;");
        due("force(39, 1)", x.force(39, 1), 4);
        due("force(40, 1)", x.force(40, 1), 3);
        order(x, 45, "strike 4;strike 0;");
        due("force(40, 1)", x.force(40, 1), 3);
        due("force(45, 1)", x.force(45, 1), 4);
        due("force(44, 29)", x.force(44, 29), 1);
        due("force(45, 29)", x.force(45, 29), 2);
    }

    private static void ticket() {
        promise = 19;
        TrunkRoom x = new TrunkRoom();
        due("ticket(8, 8, -1, 0)", x.ticket(8, 8, -1, 0), UNKNOWN);
        due("ticket(0, -1, 0, 0)", x.ticket(0, -1, 0, 0), UNKNOWN);
        due("ticket(3, 3, 0, 0)", x.ticket(3, 3, 0, 0), OUTSIDE);
        due("ticket(0, 1, -1, 0)", x.ticket(0, 1, -1, 0), OUTSIDE);
        due("ticket(0, 1, 10000, 0)", x.ticket(0, 1, 10000, 0), OUTSIDE);
        due("ticket(0, 1, 0, -1)", x.ticket(0, 1, 0, -1), OUTSIDE);
        due("ticket(0, 1, 0, 10000)", x.ticket(0, 1, 0, 10000), OUTSIDE);
        due("clocks(0, 1, 2)", x.clocks(0, 1, 2), 0);
        due("ticket(0, 1, 0, 9999)", x.ticket(0, 1, 0, 9999), 1);
        for (int n = 2; n <= 40; n++) {
            due("ticket number " + n, x.ticket(0, 1, 0, 9999), n);
        }
        due("ticket of 41", x.ticket(0, 1, 0, 0), FULL);
        due("ticket of 41 OUTSIDE", x.ticket(0, 0, 0, 0), OUTSIDE);
        due("ticket of 41 UNKNOWN", x.ticket(0, 8, 0, 0), UNKNOWN);
        due("count(11)", x.count(11), 40);
        due("clocks(0, 1, 2)", x.clocks(0, 1, 2), 1);
        due("clocks(0, 1, 0)", x.clocks(0, 1, 0), 9998);
        due("clocks(0, 1, 1)", x.clocks(0, 1, 1), 10000);
        due("clocks(1, 0, 0)", x.clocks(1, 0, 0), -10000);
    }

    private static void clocks() {
        promise = 20;
        TrunkRoom x = new TrunkRoom();
        due("clocks(8, 0, 9)", x.clocks(8, 0, 9), UNKNOWN);
        due("clocks(0, -1, 0)", x.clocks(0, -1, 0), UNKNOWN);
        due("clocks(0, 1, -1)", x.clocks(0, 1, -1), OUTSIDE);
        due("clocks(0, 1, 3)", x.clocks(0, 1, 3), OUTSIDE);
        due("clocks(0, 1, 0)", x.clocks(0, 1, 0), NOT);
        due("clocks(0, 1, 1)", x.clocks(0, 1, 1), NOT);
        due("clocks(5, 5, 0)", x.clocks(5, 5, 0), -1);
        due("clocks(5, 5, 1)", x.clocks(5, 5, 1), 1);
        x.ticket(1, 2, 10, 10);
        x.ticket(2, 3, 10, 20);
        x.ticket(5, 4, 0, 7);
        // -1 .. 1 and 9 .. 11
        due("clocks(1, 3, 0)", x.clocks(1, 3, 0), 8);
        due("clocks(1, 3, 1)", x.clocks(1, 3, 1), 12);
        due("clocks(3, 1, 0)", x.clocks(3, 1, 0), -12);
        due("clocks(1, 4, 2)", x.clocks(1, 4, 2), 0);
        due("clocks(4, 5, 1)", x.clocks(4, 5, 1), -6);
        // 10 .. 12 makes it 10 .. 12 in all, and 2 to 3 then 9 .. 11, 1 to 2 -1 .. 1
        x.ticket(1, 3, 0, 11);
        due("clocks(1, 3, 0)", x.clocks(1, 3, 0), 10);
        due("clocks(1, 3, 1)", x.clocks(1, 3, 1), 12);
        due("clocks(1, 2, 0)", x.clocks(1, 2, 0), -1);
        // 1 to 2 is 1 .. 3 too: above 1 and below 1 cannot be
        due("clocks(1, 2, 2)", x.clocks(1, 2, 2), 1);
        x.ticket(1, 2, 0, 1);
        due("clocks(1, 2, 0)", x.clocks(1, 2, 0), 0);
        due("clocks(1, 2, 1)", x.clocks(1, 2, 1), 1);
        due("clocks(2, 3, 0)", x.clocks(2, 3, 0), 9);
        x.ticket(1, 2, 0, 2);
        due("clocks(1, 2, 2)", x.clocks(1, 2, 2), -2);
        due("clocks(6, 7, 2)", x.clocks(6, 7, 2), -2);
        due("clocks(5, 5, 2)", x.clocks(5, 5, 2), -2);
        due("clocks(5, 5, 0)", x.clocks(5, 5, 0), NOT);
        due("clocks(4, 5, 1)", x.clocks(4, 5, 1), NOT);
        due("ticket number 7", x.ticket(1, 2, 0, 0), 7);
    }

    private static void need() {
        promise = 21;
        TrunkRoom x = new TrunkRoom();
        due("need(-1, 0)", x.need(-1, 0), OUTSIDE);
        due("need(12, 0)", x.need(12, 0), OUTSIDE);
        due("need(0, -1)", x.need(0, -1), OUTSIDE);
        due("need(0, 10)", x.need(0, 10), OUTSIDE);
        due("need(0, 9)", x.need(0, 9), 0);
        due("need(0, 4)", x.need(0, 4), 9);
        due("need(11, 9)", x.need(11, 9), 0);
        due("need(0, 0)", x.need(0, 0), 4);
        due("shifts(-1)", x.shifts(-1), 9);
        due("shifts(8)", x.shifts(8), 9);
    }

    private static void shifts() {
        promise = 22;
        TrunkRoom x = new TrunkRoom();
        due("shifts(-2)", x.shifts(-2), OUTSIDE);
        due("shifts(9)", x.shifts(9), OUTSIDE);
        int[] needs = {0, 2, 0, 1, 3, 0, 0, 0, 0, 5, 0, 4};
        for (int hour = 0; hour < 12; hour++) {
            x.need(hour, needs[hour]);
        }
        // two begin with hour 1 and last to 4, where one more begins; five with 8 (hours 8 to 11)
        int[] due = {0, 2, 0, 0, 1, 0, 0, 0, 5};
        for (int i = 0; i < 9; i++) {
            due("shifts(" + i + ")", x.shifts(i), due[i]);
        }
        due("shifts(-1)", x.shifts(-1), 8);
        // hour 5 is not theirs any more: one is left of four
        x.need(5, 2);
        due("shifts(5)", x.shifts(5), 1);
        due("shifts(8)", x.shifts(8), 5);
        x.need(8, 9);
        // hour 8 has the one of 5 still
        due("shifts(8)", x.shifts(8), 8);
        due("shifts(-1)", x.shifts(-1), 12);
    }

    private static void beside() {
        promise = 23;
        TrunkRoom x = ring();
        x.go(11);
        due("beside(2, 0, 9)", x.beside(2, 0, 9), UNKNOWN);
        due("beside(-1, 0, 0)", x.beside(-1, 0, 0), UNKNOWN);
        due("beside(0, 1, 0)", x.beside(0, 1, 0), UNKNOWN);
        due("beside(0, -1, 0)", x.beside(0, -1, 0), UNKNOWN);
        due("beside(0, 0, 5)", x.beside(0, 0, 5), OUTSIDE);
        due("beside(0, 0, -1)", x.beside(0, 0, -1), OUTSIDE);
        due("beside(0, 0, 0)", x.beside(0, 0, 0), 8);
        due("beside(0, 0, 1)", x.beside(0, 0, 1), 3);
        due("beside(0, 0, 2)", x.beside(0, 0, 2), 0);
        due("beside(0, 0, 3)", x.beside(0, 0, 3), 70);
        due("beside(0, 0, 4)", x.beside(0, 0, 4), 1);
        // without the hold: 2 to 0 talks in 2 at once, 0 to 2 from 7 on
        due("beside(1, 0, 0)", x.beside(1, 0, 0), 6);
        due("beside(1, 0, 4)", x.beside(1, 0, 4), 0);
        // with a WIRE more from 0 to 2 nothing waits: 0 to 2 in 1; 2 to 0 in 2 by the other two
        x.offer(0, 2, 30, 5);
        due("beside(0, 1, 0)", x.beside(0, 1, 0), 0);
        due("beside(1, 1, 1)", x.beside(1, 1, 1), 3);
        // a WIRE that goes down in what is done already: only BESIDE knows it
        x.span(0, 1, 4, 4);
        due("beside(0, 0, 2)", x.beside(0, 0, 2), 1);
        due("count(7)", x.count(7), 0);
        due("count(9)", x.count(9), 1);
        due("told(2, 6)", x.told(2, 6), 3);
        // HANDS as they are now: none, so all three wait from their booking to 13
        for (int t = 0; t < 3; t++) {
            x.hands(t, 0);
        }
        due("beside(0, 0, 0)", x.beside(0, 0, 0), 14 + 13 + 12);
        due("beside(0, 0, 3)", x.beside(0, 0, 3), 0);
        besideCancelled();
    }

    private static void besideCancelled() {
        TrunkRoom x = new TrunkRoom();
        x.wire(0, 1, 10);
        x.book(0, 1, 4, 0, 0);
        x.book(0, 1, 4, 0, 0);
        x.book(0, 1, 4, 0, 0);
        x.go(2);
        x.cancel(1);
        x.go(20);
        // 1 waited two, 2 four
        due("beside(0, 0, 0)", x.beside(0, 0, 0), 6);
        due("beside(0, 0, 1)", x.beside(0, 0, 1), 2);
        // with a WIRE more 1 talks when it would be CANCELLED, which cannot be then; 2 waits four
        x.offer(0, 1, 10, 5);
        due("beside(0, 1, 0)", x.beside(0, 1, 0), 4);
        due("beside(0, 1, 1)", x.beside(0, 1, 1), 3);
        // what was CUT and booked again is booked again in any case
        TrunkRoom y = new TrunkRoom();
        y.wire(0, 1, 10);
        y.span(0, 0, 2, 2);
        y.book(0, 1, 4, 0, 0);
        y.go(3);
        y.again(0);
        y.go(10);
        due("beside(0, 0, 1)", y.beside(0, 0, 1), 1);
        due("beside(0, 0, 2)", y.beside(0, 0, 2), 1);
        due("beside(0, 0, 0)", y.beside(0, 0, 0), 0);
        y.offer(0, 1, 9, 1);
        due("beside(0, 1, 1)", y.beside(0, 1, 1), 2);
        due("beside(0, 1, 2)", y.beside(0, 1, 2), 0);
        // only what is done is done again
        TrunkRoom z = new TrunkRoom();
        z.wire(0, 1, 10);
        z.book(0, 1, 1, 0, 0);
        due("beside(0, 0, 0)", z.beside(0, 0, 0), 0);
        z.go(1);
        due("beside(0, 0, 1)", z.beside(0, 0, 1), 0);
        z.go(1);
        due("beside(0, 0, 1)", z.beside(0, 0, 1), 1);
    }

    private static void offer() {
        promise = 24;
        TrunkRoom x = new TrunkRoom();
        due("offer(8, 8, 0, -1)", x.offer(8, 8, 0, -1), UNKNOWN);
        due("offer(0, -1, 1, 1)", x.offer(0, -1, 1, 1), UNKNOWN);
        due("offer(2, 2, 1, 1)", x.offer(2, 2, 1, 1), OUTSIDE);
        due("offer(0, 1, 0, 1)", x.offer(0, 1, 0, 1), OUTSIDE);
        due("offer(0, 1, 301, 1)", x.offer(0, 1, 301, 1), OUTSIDE);
        due("offer(0, 1, 1, -1)", x.offer(0, 1, 1, -1), OUTSIDE);
        due("offer(0, 1, 1, 10000)", x.offer(0, 1, 1, 10000), OUTSIDE);
        due("offer(0, 1, 1, 0)", x.offer(0, 1, 1, 0), 0);
        due("offer(0, 1, 300, 9999)", x.offer(0, 1, 300, 9999), 1);
        due("offer(0, 1, 1, 1)", x.offer(0, 1, 1, 1), 2);
        due("offer(0, 1, 1, 1)", x.offer(0, 1, 1, 1), 3);
        due("offer of 5", x.offer(0, 1, 1, 1), FULL);
        due("offer of 5 OUTSIDE", x.offer(0, 0, 1, 1), OUTSIDE);
        due("offer of 5 UNKNOWN", x.offer(0, 8, 1, 1), UNKNOWN);
        due("count(12)", x.count(12), 4);
        due("count(1)", x.count(1), 0);
        due("ways(0, 1, 3, 0, -1)", x.ways(0, 1, 3, 0, -1), NONE);
        x.book(0, 1, 1, 0, 0);
        x.book(0, 1, 1, 0, 0);
        due("told(1, 10)", x.told(1, 10), 6);
        due("go(1)", x.go(1), 0);
    }

    private static void plan() {
        promise = 25;
        TrunkRoom x = new TrunkRoom();
        due("plan(-1, 0)", x.plan(-1, 0), OUTSIDE);
        due("plan(100000, 0)", x.plan(100000, 0), OUTSIDE);
        due("plan(0, -1)", x.plan(0, -1), OUTSIDE);
        due("plan(0, 3)", x.plan(0, 3), OUTSIDE);
        due("plan(99999, 2)", x.plan(99999, 2), 0);
        x.wire(0, 1, 10);
        for (int c = 0; c < 3; c++) {
            x.book(0, 1, 4, 0, 0);
        }
        x.book(2, 3, 1, 0, 0);
        x.go(10);
        // WAITED 4 + 8 and 10 for want of a WIRE
        due("plan(99999, 2)", x.plan(99999, 2), 22);
        x.offer(0, 1, 10, 30);
        x.offer(2, 3, 10, 40);
        x.offer(0, 1, 10, 30);
        x.offer(4, 5, 10, 0);
        // one more from 0 to 1: 4 and 10 are left; two more: 10. from 2 to 3: 12 are left
        int[][] due = {{0, 0, 0, 22}, {29, 0, 0, 22}, {30, 1, 30, 14}, {39, 1, 30, 14}, {40, 2, 40, 12},
                {60, 5, 60, 10}, {69, 5, 60, 10}, {70, 3, 70, 4}, {99, 3, 70, 4}, {100, 7, 100, 0},
                {99999, 7, 100, 0}};
        for (int[] d : due) {
            for (int what = 0; what < 3; what++) {
                due("plan(" + d[0] + ", " + what + ")", x.plan(d[0], what), d[what + 1]);
            }
        }
        // what changes later is seen: HANDS enough for one a MINUTE alone
        x.hands(0, 1);
        due("plan(100, 2)", x.plan(100, 2), 3);
        x.hands(0, 3);
        due("plan(100, 2)", x.plan(100, 2), 0);
        x.span(0, 0, 0, 479);
        due("plan(100, 2)", x.plan(100, 2), 4);
        x.wire(2, 3, 10);
        due("plan(60, 0)", x.plan(60, 0), 5);
        due("plan(60, 2)", x.plan(60, 2), 4);
        x.book(6, 7, 1, 0, 0);
        x.go(2);
        due("plan(60, 2)", x.plan(60, 2), 6);
        x.wire(6, 7, 10);
        due("plan(60, 2)", x.plan(60, 2), 4);
        order(x, 0, "next short; ways 1; hold 9;");
        due("plan(60, 2)", x.plan(60, 2), 4);
        due("count(14)", x.count(14), 24);
    }
}
