/** Promises 13 and 14 (MINUTES, waits) and what CALLS owe: every bound, both sides of it, and every refusal. */
public final class MinuteBoundsTest {
    private MinuteBoundsTest() { }

    public static void main(String[] args) {
        go();
        firstAndSecond();
        whoIsNext();
        handsTaken();
        holds();
        rings();
        waited();
        wrong();
        charges();
        chargesByMiles();
        lateAndCut();
        nights();
        Script.end();
    }

    private static void go() {
        String refusals = """
            go -1 = OUTSIDE
            go 201 = OUTSIDE
            go MIN = OUTSIDE
            go MAX = OUTSIDE
            go 256 = OUTSIDE
            go 65537 = OUTSIDE
            go 2147483640 = OUTSIDE
            """;
        Script.run("13: refused, new; none, one and two hundred MINUTES", refusals + """
            go 0 = 0
            count 0 = 0
            go 1 = 0
            count 0 = 1
            go 200 = 0
            count 0 = 201
            go 199 = 0
            count 0 = 400
            go 81 = NOT
            go 200 = NOT
            go 201 = OUTSIDE
            go 80 = 0
            count 0 = 480
            go 0 = 0
            go 1 = NOT
            go 200 = NOT
            go 201 = OUTSIDE
            go -1 = OUTSIDE
            count 0 = 480
            """);
        Script.run("13: up to 480 by two hundred at once, not to 481", """
            go 200
            go 80
            go 1
            go 200 = NOT
            go 199 = 0
            count 0 = 480
            """);
        Script.run("13: refused", Rooms.ORDINARY + refusals + "go 0 = 0\ngo 1 = 0");
        Script.run("13: refused, full", Rooms.FULL + refusals);
        Script.run("13: refused, NOW is 480", Rooms.FULL_AND_OVER + refusals + "go 1 = NOT\ngo 0 = 0");
        Script.run("13: how many began in all the MINUTES that are done", """
            wire 0 1 10
            3x book 0 1 1 0 0
            book 0 1 1 2 479
            go 2 = 2
            go 1 = 1
            go 200 = 0
            go 200 = 0
            go 77 = 1
            told 3 6 = 2
            told 3 7 = 479
            told 3 8 = NONE
            told 3 12 = 0
            """);
    }

    private static void firstAndSecond() {
        Script.run("13: what talked on two WIRES is CUT by one; the other one is FREE in the same MINUTE", """
            wire 0 1 10
            wire 1 2 10
            span 1 1 3 3
            book 0 2 9 0 0
            go 1 = 1
            book 0 1 5 0 0
            go 2 = 0
            go 1 = 1
            told 0 6 = 4
            told 0 8 = 3
            told 0 11 = 2
            told 1 7 = 3
            about 1 4 = NONE
            """);
        Script.run("13: what is ENDED frees its WIRES in the same MINUTE", """
            wire 0 1 10
            2x book 0 1 7 0 0
            go 7 = 1
            go 1 = 1
            told 0 8 = 7
            told 1 7 = 7
            """);
        Script.run("13: LENGTH over in the very MINUTE in which the WIRE goes down: ENDED, all of it owed", """
            wire 0 1 10
            span 0 1 3 3
            book 0 1 3 0 0
            go 4
            told 0 * = 0 1 3 0 NONE 0 3 0 3 0 0 1 10 10
            again 0 = NOT
            """);
        Script.run("13: a HELD one whose WIRE goes down waits, and goes another way in the same MINUTE", """
            wire 0 1 10
            wire 1 2 10
            wire 0 3 50
            wire 3 2 50
            order 0 'hold 60;'
            span 0 2 2 2
            book 1 2 60 0 0
            book 0 3 2 0 0
            go 1 = 2
            book 0 2 5 0 0
            go 1 = 0
            told 2 6 = 1
            way 2 * = 0 1 NONE
            go 1 = 1
            told 2 6 = 2
            way 2 * = 2 3 NONE
            told 2 13 = 100
            """);
        Script.run("13: a HELD one stays when a WIRE goes down that it only wants", """
            wire 0 1 10
            wire 1 2 10
            order 0 'hold 60;'
            span 1 2 2 3
            book 1 2 60 0 0
            go 1
            book 0 2 5 0 0
            go 2
            told 0 6 = 4
            told 1 6 = 1
            go 1 = 0
            told 1 6 = 1
            go 1 = 1
            told 1 7 = 4
            """);
    }

    private static void whoIsNext() {
        Script.run("13: of like ones the lesser number", """
            wire 0 1 10
            3x book 0 1 1 0 0
            go 3 = 3
            told 0 7 = 0
            told 1 7 = 1
            told 2 7 = 2
            """);
        Script.run("13: FIXED ones, then FIRST ones, then those booked earlier, if no ORDER tells", """
            wire 0 1 10
            hands 0 0
            book 0 1 1 0 0
            go 1
            book 0 1 1 0 0
            book 0 1 1 1 0
            book 0 1 1 2 1
            hands 0 1
            go 4 = 4
            told 3 7 = 1
            told 2 7 = 2
            told 0 7 = 3
            told 1 7 = 4
            """);
        Script.run("13: short: one MINUTE before two, fifty-nine before sixty", """
            wire 0 1 10
            wire 2 3 10
            order 0 'next short;'
            book 0 1 2 0 0
            book 0 1 1 0 0
            book 2 3 60 0 0
            book 2 3 59 0 0
            go 1 = 2
            told 1 6 = 2
            told 3 6 = 2
            """);
        Script.run("13: of forty the last one goes ahead, if it is short by one MINUTE", """
            wire 0 1 10
            order 0 'next short;'
            39x book 0 1 2 0 0
            book 0 1 1 0 0 = 39
            go 1 = 1
            told 39 6 = 2
            go 1 = 1
            told 0 6 = 2
            """);
        Script.run("13: far: the MILES of the first WAY, all looked at as USABLE", """
            wire 0 1 100
            wire 0 1 200
            wire 0 2 150
            span 0 0 0 9
            order 0 'next far;'
            hands 0 1
            book 0 1 5 0 0
            book 0 2 5 0 0
            go 1 = 1
            told 1 7 = 0
            go 1 = 1
            way 0 0 = 1
            """);
        Script.run("13: far: nine hundred MILES and one", """
            wire 0 1 300
            wire 1 2 300
            wire 2 3 300
            wire 0 4 300
            wire 0 5 1
            order 0 'next far;ways 3;'
            hands 0 1
            book 0 5 5 0 0
            book 0 4 5 0 0
            book 0 3 5 0 0
            go 1 = 1
            told 2 6 = 2
            go 1 = 1
            told 1 6 = 2
            go 1 = 1
            told 0 6 = 2
            """);
        Script.run("13: by all five keys, the last one too", """
            wire 0 1 10
            wire 0 2 10
            wire 0 3 11
            order 0 'next fixed,first,booked,short,far;'
            hands 0 1
            book 0 1 5 1 0
            book 0 2 4 1 0
            book 0 3 4 1 0
            book 0 3 4 2 0
            go 5
            told 3 7 = 0
            told 1 7 = 1
            told 0 7 = 2
            told 2 7 = 4
            """);
        Script.run("13: ways: by one WIRE alone, by three", """
            wire 0 1 10
            wire 1 2 10
            wire 2 3 10
            book 0 2 60 0 0
            book 3 1 60 0 0
            order 1 'ways 1;'
            order 2 'ways 3;'
            go 1 = 1
            go 1 = 0
            book 0 3 5 0 0
            go 58 = 0
            go 1 = 1
            told 1 7 = 60
            go 60 = 1
            told 2 7 = 120
            """);
    }

    private static void handsTaken() {
        Script.run("13: one that is HELD takes a HAND, one that only waits takes none", """
            wire 0 1 10
            wire 1 2 10
            wire 0 3 10
            wire 0 4 10
            order 0 'hold 60;'
            hands 0 2
            book 1 2 60 0 0
            go 1
            book 0 2 5 0 0
            book 0 5 5 0 0
            book 0 3 5 0 0
            book 0 4 5 0 0
            go 1 = 1
            told 1 6 = 1
            told 2 6 = 0
            told 3 6 = 2
            told 4 6 = 0
            # what stays HELD takes none
            book 0 5 5 0 0
            go 1 = 1
            told 4 6 = 2
            """);
        Script.run("13: one HAND: what stays HELD, or waits again, takes none; what goes on takes it", """
            wire 0 1 10
            wire 1 2 10
            wire 0 3 10
            wire 0 4 10
            wire 0 5 10
            order 0 'hold 3;'
            hands 0 1
            book 1 2 4 0 0
            go 1
            book 0 2 5 0 0
            go 1 = 0
            told 1 6 = 1
            book 0 3 9 0 0
            go 1 = 1
            told 2 7 = 2
            told 1 6 = 1
            go 1
            # minute 4: it takes the next WIRE and the HAND
            book 0 4 9 0 0
            go 1 = 1
            told 1 7 = 4
            told 3 6 = 0
            go 1 = 1
            told 3 7 = 5
            """);
        Script.run("13: one HAND, and the HELD one waits again", """
            wire 0 1 10
            wire 1 2 10
            wire 0 3 10
            order 0 'hold 1;'
            hands 0 1
            book 1 2 60 0 0
            go 1
            book 0 2 5 0 0
            go 1 = 0
            told 1 6 = 1
            book 0 3 9 0 0
            go 1 = 1
            told 1 6 = 0
            told 2 7 = 2
            """);
        Script.run("13: the HANDS are there again in each MINUTE", """
            9x wire 0 1 10
            hands 0 2
            9x book 0 1 60 0 0
            go 1 = 2
            go 1 = 2
            go 2 = 4
            go 1 = 1
            """);
    }

    private static void holds() {
        Script.run("13: hold 0: nothing is HELD", """
            wire 0 1 10
            wire 1 2 10
            book 1 2 60 0 0
            book 0 2 5 0 0
            go 5
            told 1 6 = 0
            told 1 11 = 0
            about 0 4 = NONE
            """);
        String held = """
            wire 0 1 10
            wire 1 2 10
            book 1 2 60 0 0
            go 1
            book 0 2 5 0 0
            """;
        Script.run("13: hold 1: the next MINUTE it waits again", held + """
            order 0 'hold 1;'
            go 1
            told 1 6 = 1
            told 1 11 = 1
            told 1 13 = 20
            go 1
            told 1 6 = 0
            told 1 11 = 0
            told 1 13 = NONE
            go 1
            told 1 6 = 1
            """);
        Script.run("13: hold 60: sixty MINUTES, not one less", held + """
            order 0 'hold 60;'
            span 1 0 2 400
            go 60
            count 0 = 61
            told 0 6 = 4
            told 1 6 = 1
            go 1
            told 1 6 = 0
            told 1 9 = 61
            about 0 4 = NONE
            """);
        Script.run("13: hold is that of the MINUTE", held + """
            order 0 'hold 60;'
            order 9 'hold 9;'
            go 9
            told 1 6 = 1
            order 10 'hold 10;'
            go 1
            told 1 6 = 1
            go 1
            told 1 6 = 0
            go 1
            told 1 6 = 1
            order 13 'hold 0;'
            go 1
            told 1 6 = 0
            go 5
            told 1 6 = 0
            """);
        Script.run("13: when hold is over and the next one is FREE, it goes on", """
            wire 0 1 10
            wire 1 2 10
            order 0 'hold 2;'
            book 1 2 3 0 0
            go 1
            book 0 2 5 0 0
            go 2 = 0
            told 1 6 = 1
            go 1 = 1
            told 1 7 = 3
            """);
        Script.run("13: one MINUTE later it had to wait again", """
            wire 0 1 10
            wire 1 2 10
            order 0 'hold 2;'
            book 1 2 4 0 0
            go 1
            book 0 2 5 0 0
            go 3 = 0
            told 1 6 = 0
            go 1 = 1
            told 1 7 = 4
            """);
        Script.run("13: from the first one on up to the first that is not FREE", """
            wire 0 1 10
            wire 1 2 10
            wire 2 3 10
            wire 4 5 10
            wire 5 6 10
            wire 6 7 10
            order 0 'ways 3;hold 3;'
            book 2 3 5 0 0
            book 5 6 2 0 0
            go 1
            book 0 3 5 0 0
            book 4 7 5 0 0
            go 1
            told 2 11 = 2
            told 3 11 = 1
            about 1 4 = 2
            about 5 4 = NONE
            # the next one and all behind it
            go 1 = 1
            told 3 6 = 2
            told 3 11 = 3
            told 2 6 = 1
            """);
        Script.run("13: a HELD one takes none that is not USABLE, though no CALL has it", """
            wire 0 1 10
            wire 1 2 10
            wire 2 3 10
            order 0 'ways 3;hold 9;'
            span 2 0 3 4
            book 1 2 3 0 0
            go 1 = 1
            book 0 3 5 0 0
            go 2 = 0
            told 1 11 = 1
            # minute 3: WIRE 1 is FREE, WIRE 2 is SHUT
            go 1 = 0
            told 1 6 = 1
            told 1 11 = 2
            about 1 4 = 1
            about 2 4 = NONE
            go 1 = 0
            told 1 11 = 2
            go 1 = 1
            told 1 7 = 5
            told 1 11 = 3
            """);
        Script.run("13: hold goes by since it last took one", """
            wire 0 1 10
            wire 1 2 10
            wire 2 3 10
            order 0 'ways 3;hold 4;'
            book 1 2 4 0 0
            book 2 3 60 0 0
            go 1
            book 0 3 5 0 0
            go 4
            told 2 11 = 2
            go 3
            told 2 6 = 1
            go 1
            told 2 6 = 0
            """);
        Script.run("13: not HELD, if the first one is not FREE or any is not USABLE", """
            wire 0 1 10
            wire 1 2 10
            wire 3 4 10
            wire 4 5 10
            order 0 'hold 9;'
            span 3 0 0 1
            book 0 1 3 0 0
            go 1
            book 0 2 5 0 0
            book 3 5 5 0 0
            go 1 = 0
            told 1 6 = 0
            told 2 6 = 0
            go 1 = 1
            told 2 7 = 2
            go 1 = 1
            told 1 7 = 3
            """);
        Script.run("13: HELD by at most as many WIRES as ways tells", """
            wire 0 1 10
            wire 1 2 10
            wire 2 3 10
            order 0 'hold 60;'
            book 2 3 60 0 0
            go 1
            book 0 3 5 0 0
            go 3 = 0
            told 1 6 = 0
            order 4 'ways 3;'
            go 1 = 0
            told 1 6 = 1
            told 1 11 = 2
            """);
        Script.run("13: a WAY that is FREE goes ahead of one to be HELD that is shorter", """
            wire 0 1 10
            wire 1 2 10
            wire 0 3 90
            wire 3 2 90
            order 0 'hold 9;'
            book 1 2 60 0 0
            book 0 2 5 0 0
            go 1 = 2
            way 1 * = 2 3 NONE
            """);
    }

    private static void rings() {
        Script.run("13: a RING of two; the last by next waits again, in this MINUTE the other one goes on", """
            wire 0 1 10
            wire 1 2 10
            order 0 'hold 60;'
            book 1 2 2 0 0
            go 1
            book 0 2 5 0 0
            go 1
            book 2 0 5 1 0
            go 1
            told 1 6 = 1
            told 2 6 = 1
            count 9 = 0
            go 1 = 1
            count 9 = 1
            told 1 6 = 0
            told 2 6 = 2
            told 2 7 = 3
            go 10
            count 9 = 1
            """);
        Script.run("13: of like ones the greater number waits again", """
            wire 0 1 10
            wire 1 2 10
            order 0 'next first; hold 60;'
            book 1 2 2 0 0
            book 2 0 5 2 2
            book 0 2 5 0 0
            go 2
            told 2 6 = 1
            go 1
            told 1 6 = 1
            go 1 = 1
            count 9 = 1
            told 1 7 = 3
            told 2 6 = 0
            """);
        Script.run("13: a RING of three, and one that waits for it and is in none", """
            wire 0 1 10
            wire 1 2 10
            wire 2 0 10
            wire 3 0 10
            order 0 'next short; hold 60;'
            book 0 1 1 0 0 = 0
            book 1 2 2 0 0 = 1
            book 2 0 3 0 0 = 2
            go 1 = 3
            book 0 2 30 0 0 = 3
            book 3 1 40 0 0 = 4
            go 1 = 0
            book 1 0 20 0 0 = 5
            go 1 = 0
            book 2 1 10 0 0 = 6
            go 1 = 0
            count 9 = 0
            count 4 = 4
            told 3 11 = 1
            told 4 11 = 1
            told 5 11 = 1
            told 6 11 = 1
            go 1 = 1
            count 9 = 1
            told 3 6 = 0
            told 4 6 = 1
            told 5 6 = 1
            told 6 6 = 2
            told 6 7 = 4
            way 6 * = 2 0 NONE
            count 14 = 12
            beside 0 0 4 = 1
            """);
        Script.run("13: a RING of eight, round all TOWNS", """
            wire 0 1 10
            wire 1 2 10
            wire 2 3 10
            wire 3 4 10
            wire 4 5 10
            wire 5 6 10
            wire 6 7 10
            wire 7 0 10
            order 0 'next short; hold 60;'
            book 0 1 1 0 0
            book 1 2 2 0 0
            book 2 3 3 0 0
            book 3 4 4 0 0
            book 4 5 5 0 0
            book 5 6 6 0 0
            book 6 7 7 0 0
            book 7 0 8 0 0
            book 0 2 60 0 0
            book 1 3 50 0 0
            book 2 4 40 0 0
            book 3 5 30 0 0
            book 4 6 20 0 0
            book 5 7 15 0 0
            book 6 0 14 0 0
            book 7 1 13 0 0
            go 9 = 8
            count 4 = 8
            count 9 = 0
            go 1 = 1
            count 9 = 1
            told 8 6 = 0
            told 9 6 = 1
            told 15 6 = 2
            way 15 * = 7 0 NONE
            """);
        Script.run("13: two RINGS in one MINUTE", """
            wire 0 1 10
            wire 1 2 10
            wire 3 4 10
            wire 4 5 10
            order 0 'hold 60;'
            book 1 2 2 0 0
            book 4 5 2 0 0
            go 1
            book 0 2 5 0 0
            book 3 5 5 0 0
            go 1
            book 2 0 5 1 0
            book 5 3 5 1 0
            go 1
            count 9 = 0
            go 1 = 2
            count 9 = 2
            told 2 6 = 0
            told 3 6 = 0
            """);
        mostRings();
        Script.run("13: one that waits for a TALKING one is in no RING", """
            wire 0 1 10
            wire 1 2 10
            order 0 'hold 60;'
            book 1 2 60 0 0
            go 1
            book 0 2 5 0 0
            go 50
            count 9 = 0
            told 1 6 = 1
            """);
    }

    /** All sixteen WIRES are held, each by another CALL: eight RINGS of two, all of them in one MINUTE. */
    private static void mostRings() {
        StringBuilder b = new StringBuilder("order 0 'hold 60;'\n");
        for (int far = 1; far <= 2; far++) {
            for (int t = 0; t < 8; t++) {
                b.append("wire ").append(t).append(' ').append((t + far) % 8).append(" 10\n");
            }
        }
        for (int t = 0; t < 8; t++) {
            b.append("book ").append(t).append(' ').append((t + 2) % 8).append(" 2 0 0\n");
        }
        b.append("go 1 = 8\n");
        for (int t = 0; t < 8; t++) {
            b.append("book ").append(t).append(' ').append((t + 3) % 8).append(" 5 0 0\n");
        }
        b.append("go 1 = 0\ncount 4 = 8\n");
        for (int t = 0; t < 8; t++) {
            b.append("book ").append((t + 3) % 8).append(' ').append(t).append(" 5 1 0\n");
        }
        Script.run("13: eight RINGS in one MINUTE", b + """
            go 1 = 0
            count 4 = 16
            count 9 = 0
            go 1 = 8
            count 9 = 8
            count 3 = 8
            told 8 6 = 0
            told 15 6 = 0
            told 16 6 = 2
            way 16 * = 9 0 NONE
            told 23 6 = 2
            way 23 * = 8 7 NONE
            beside 0 0 4 = 8
            """);
    }

    private static void waited() {
        Script.run("13: WAITING and HELD ones wait, one that begins does not", Rooms.ORDINARY + """
            told 0 9 = 0
            told 4 9 = 4
            told 6 9 = 2
            go 1
            told 4 9 = 5
            told 6 9 = 3
            told 2 9 = 0
            """);
        Script.run("13: WAITED in all of forty in all the MINUTES", """
            hands 0 0
            40x book 0 1 1 0 0
            go 200
            go 200
            go 80
            count 14 = 19200
            beside 0 0 0 = 19200
            told 39 9 = 480
            """);
    }

    private static void wrong() {
        String refusals = """
            wrong -1 = OUTSIDE
            wrong 3 = OUTSIDE
            wrong MIN = OUTSIDE
            wrong MAX = OUTSIDE
            wrong 256 = OUTSIDE
            """;
        Script.run("14: refused, new", refusals + "wrong * = 0 0 0");
        Script.run("14: those that talk or talked: ENDED, CUT and TALKING", Rooms.ORDINARY + refusals + """
            wrong * = 0 0 4
            """);
        Script.run("14: refused, full", Rooms.FULL_AND_OVER + refusals);
        Script.run("14: told more, told less, told right", """
            wire 0 1 10
            wire 2 3 10
            wire 4 5 10
            book 0 1 8 0 0
            book 0 1 1 0 0
            book 0 1 1 0 0
            go 1 = 1
            told 1 10 = 3
            told 2 10 = 6
            wrong * = 0 0 1
            # 1 begins in 8: told 3, WAITED 8; 2 in 9: told 6, WAITED 9
            go 8 = 1
            wrong * = 5 5 2
            go 1 = 1
            wrong * = 8 5 3
            2x book 2 3 3 0 0
            go 4
            # told 3, WAITED 3
            wrong * = 8 5 5
            wire 4 5 10
            4x book 4 5 60 0 0
            hands 4 9
            go 1 = 2
            # told 0 and 2, WAITED 0
            wrong * = 10 5 7
            cancel 7 = 1
            wrong * = 10 5 7
            """);
        Script.run("14: a CUT one is as wrong as it was when it talked", """
            wire 0 1 10
            span 0 1 6 6
            book 0 1 4 0 0
            book 0 1 9 0 0
            go 6 = 2
            # told 3, WAITED 4
            wrong * = 1 1 2
            go 1
            told 1 6 = 4
            wrong * = 1 1 2
            """);
        Script.run("14: no MINUTE waited for the most told", """
            order 0 'told 99;'
            16x wire 1 2 10
            3x book 0 7 1 0 0
            wire 0 7 10 = FULL
            told 2 10 = 198
            """);
        Script.run("14: the whole day waited for none told", """
            wire 0 1 10
            span 0 0 0 478
            book 0 1 1 0 0
            go 200
            go 200
            go 79
            wrong * = 0 0 0
            go 1 = 1
            wrong * = 479 479 1
            """);
    }

    private static void charges() {
        Script.run("10: each three MINUTES begun", """
            8x wire 0 1 10
            hands 0 9
            book 0 1 1 0 0
            book 0 1 2 0 0
            book 0 1 3 0 0
            book 0 1 4 0 0
            book 0 1 57 0 0
            book 0 1 58 0 0
            book 0 1 59 0 0
            book 0 1 60 0 0
            go 1 = 8
            told 0 12 = 0
            go 59
            told 0 12 = 10
            told 1 12 = 10
            told 2 12 = 10
            told 3 12 = 20
            told 4 12 = 190
            told 5 12 = 200
            told 6 12 = 200
            told 7 12 = 0
            count 15 = 640
            go 1
            told 7 12 = 200
            count 15 = 840
            """);
        Script.run("10: those that are not ENDED or CUT owe nothing", Rooms.ORDINARY + """
            told 2 12 = 0
            told 4 12 = 0
            told 5 12 = 0
            told 6 12 = 0
            """);
        Script.run("10: the most and the least coin; FIRST ones twice", """
            wire 0 1 10
            wire 2 3 11
            order 0 'charge 999 to 10; charge 0 to 11;'
            book 0 1 60 1 0
            book 2 3 60 1 0
            go 61
            told 0 12 = 39960
            told 1 12 = 0
            count 15 = 39960
            beside 0 0 3 = 39960
            """);
    }

    private static void chargesByMiles() {
        Script.run("10: that many MILES or fewer, of the WAY in all", """
            wire 0 1 10
            wire 0 2 11
            wire 3 4 100
            wire 4 5 200
            wire 6 7 300
            wire 6 7 300
            order 0 'charge 5 to 10; charge 7 to 299; charge 9 to 300; ways 2;'
            book 0 1 1 0 0
            book 0 2 1 0 0
            book 3 5 1 0 0
            book 6 7 1 0 0
            go 2
            told 0 12 = 5
            told 1 12 = 7
            told 2 12 = 9
            told 3 12 = 9
            """);
        Script.run("10: of the WAY on which it talked, not of the first one", """
            wire 0 1 10
            wire 0 1 50
            order 0 'charge 5 to 10; charge 7 to 50;'
            2x book 0 1 1 0 0
            go 2 = 2
            told 0 12 = 5
            told 1 13 = 50
            told 1 12 = 7
            count 15 = 12
            beside 0 0 3 = 12
            """);
        Script.run("10: more MILES than any clause has: 10", """
            wire 0 1 300
            wire 1 2 300
            wire 2 3 300
            order 0 'charge 5 to 899; ways 3;'
            book 0 3 1 0 0
            go 2
            told 0 12 = 10
            told 0 13 = 900
            order 0 'charge 6 to 900;'
            told 0 12 = 6
            """);
    }

    private static void lateAndCut() {
        Script.run("10: a FIXED one later than its MINUTE and grace owes the half, cut", """
            wire 0 1 10
            wire 2 3 10
            wire 4 5 10
            span 0 0 0 4
            span 1 0 0 5
            order 0 'charge 15 to 10;'
            book 0 1 1 2 0
            book 2 3 1 2 0
            book 4 5 1 2 0
            go 8
            told 0 7 = 5
            told 0 12 = 15
            told 1 7 = 6
            told 1 12 = 7
            told 2 12 = 15
            """);
        Script.run("10: grace 0 and grace 60", """
            wire 0 1 10
            wire 2 3 10
            wire 4 5 10
            wire 6 7 10
            span 1 0 0 0
            span 2 0 3 62
            span 3 0 3 63
            order 0 'grace 0;'
            order 3 'grace 60;'
            book 0 1 1 2 0
            book 2 3 1 2 0
            book 4 5 1 2 3
            book 6 7 1 2 3
            go 66
            told 0 12 = 10
            told 1 7 = 1
            told 1 12 = 5
            told 2 7 = 63
            told 2 12 = 10
            told 3 7 = 64
            told 3 12 = 5
            """);
        Script.run("10: a FIRST or a plain one is never late", """
            wire 0 1 10
            wire 2 3 10
            span 0 0 0 100
            span 1 0 0 100
            order 0 'grace 0;'
            book 0 1 1 0 0
            book 2 3 1 1 0
            go 103
            told 0 7 = 101
            told 0 12 = 10
            told 1 12 = 20
            """);
        Script.run("10: CUT: the minutes till then, less back in a hundred, cut", """
            wire 0 1 10
            wire 2 3 10
            wire 4 5 10
            wire 6 7 10
            span 0 0 1 1
            span 1 0 3 3
            span 2 0 4 4
            span 3 0 59 59
            order 0 'charge 15 to 10; back 50;'
            book 0 1 60 0 0
            book 2 3 60 0 0
            book 4 5 60 0 0
            book 6 7 60 0 0
            go 60
            told 0 8 = 1
            told 0 12 = 8
            told 1 12 = 8
            told 2 12 = 15
            told 3 12 = 150
            count 15 = 181
            """);
        Script.run("10: back 0 and back 100, back 1 and back 99", """
            wire 0 1 10
            span 0 0 1 1
            span 0 0 11 11
            span 0 0 21 21
            span 0 0 31 31
            order 0 'back 0;'
            order 10 'back 100;'
            order 20 'back 1;'
            order 30 'back 99;'
            book 0 1 60 0 0
            book 0 1 60 2 10
            book 0 1 60 2 20
            book 0 1 60 2 30
            go 32
            count 7 = 4
            told 0 12 = 10
            told 1 12 = 0
            told 2 12 = 10
            told 3 12 = 1
            """);
        Script.run("10: CUT ones that are FIRST, or late", """
            wire 0 1 10
            wire 2 3 10
            span 0 0 1 1
            span 1 0 0 5
            span 1 0 7 7
            order 0 'charge 5 to 10;'
            book 0 1 60 1 0
            book 2 3 60 2 0
            go 8
            told 0 12 = 5
            told 1 7 = 6
            told 1 12 = 1
            """);
    }

    private static void nights() {
        Script.run("10: night from its first MINUTE to its last, by the MINUTE in which it began", """
            wire 0 1 10
            wire 0 1 10
            wire 0 1 10
            wire 0 1 10
            order 0 'night 5 to 6 by 50;'
            book 0 1 3 2 4
            book 0 1 3 2 5
            book 0 1 3 2 6
            book 0 1 3 2 7
            go 11 = 4
            told 0 12 = 10
            told 1 12 = 5
            told 2 12 = 5
            told 3 12 = 10
            """);
        Script.run("10: night by 0, by 1 and by 100; the last one that holds; cut before twice", """
            wire 0 1 10
            wire 2 3 10
            wire 4 5 10
            order 0 'night 0 to 479 by 0; night 1 to 1 by 1; night 2 to 2 by 100; charge 199 to 10;'
            book 0 1 1 1 0
            go 1
            book 2 3 1 1 0
            go 1
            book 4 5 1 1 0
            go 2
            told 0 12 = 0
            told 1 12 = 2
            told 2 12 = 398
            """);
        Script.run("10: night of MINUTE 0", """
            wire 0 1 10
            order 0 'night 0 to 0 by 30;'
            book 0 1 1 0 0
            book 0 1 1 0 0
            go 3
            told 0 12 = 3
            told 1 12 = 10
            """);
        Script.run("10: night of MINUTE 478, ENDED in 479", """
            wire 0 1 10
            order 0 'night 479 to 479 by 30; night 478 to 478 by 20;'
            book 0 1 1 2 478
            go 200
            go 200
            go 80
            told 0 12 = 2
            """);
    }
}
