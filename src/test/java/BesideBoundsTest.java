/** Promises 19 to 25 (TICKETS, HOURS, BESIDE, OFFERS, THE PLAN): every bound, both sides of it, every refusal. */
public final class BesideBoundsTest {
    private BesideBoundsTest() { }

    public static void main(String[] args) {
        ticket();
        ticketRefused();
        clocks();
        quarrels();
        clocksRefused();
        need();
        shifts();
        besideRefused();
        beside();
        besideAsItIsNow();
        besideCancelled();
        offer();
        offersBeside();
        planRefused();
        plan();
        Script.end();
    }

    // ---- TICKETS

    private static void ticket() {
        Script.run("19: the least and the greatest", """
            ticket 0 7 0 0 = 1
            ticket 6 7 9999 9999 = 2
            ticket 1 2 0 9999 = 3
            ticket 4 3 9999 0 = 4
            clocks 0 7 * = -1 1 1
            clocks 6 7 * = -1 1 1
            clocks 1 2 * = 9998 10000 1
            clocks 2 1 * = -10000 -9998 1
            clocks 4 3 * = -10000 -9998 1
            clocks 3 4 * = 9998 10000 1
            count 11 = 4
            """);
        Script.run("19: forty, and none more; the fortieth counts", """
            39x ticket 0 1 5 5 = 1+
            ticket 0 1 5 6 = 40
            ticket 0 1 5 5 = FULL
            count 11 = 40
            clocks 0 1 * = 0 1 1
            """);
        Script.run("19: NOW is 480", Rooms.OVER + "ticket 0 7 0 0 = 2");
    }

    private static void ticketRefused() {
        String refusals = """
            ticket -1 0 5 5 = UNKNOWN
            ticket 8 0 5 5 = UNKNOWN
            ticket 0 -1 5 5 = UNKNOWN
            ticket 0 8 5 5 = UNKNOWN
            ticket MIN 0 5 5 = UNKNOWN
            ticket 0 MAX 5 5 = UNKNOWN
            ticket 256 1 5 5 = UNKNOWN
            ticket 8 8 5 5 = UNKNOWN
            ticket -1 -1 -1 10000 = UNKNOWN
            ticket 0 8 10000 5 = UNKNOWN
            ticket 0 0 5 5 = OUTSIDE
            ticket 7 7 5 5 = OUTSIDE
            ticket 0 1 -1 5 = OUTSIDE
            ticket 0 1 10000 5 = OUTSIDE
            ticket 0 1 5 -1 = OUTSIDE
            ticket 0 1 5 10000 = OUTSIDE
            ticket 0 1 MIN 5 = OUTSIDE
            ticket 0 1 MAX 5 = OUTSIDE
            ticket 0 1 5 MIN = OUTSIDE
            ticket 0 1 5 MAX = OUTSIDE
            ticket 0 1 65536 5 = OUTSIDE
            ticket 3 3 -1 10000 = OUTSIDE
            """;
        Script.run("19: refused, new", refusals + "clocks 0 1 2 = 0");
        Script.run("19: refused", Rooms.ORDINARY + refusals + "clocks 0 1 * = 0 2 1");
        Script.run("19: refused, full", Rooms.FULL_AND_OVER + refusals + """
            ticket 0 1 0 0 = FULL
            ticket 7 6 9999 9999 = FULL
            ticket 1 0 5 5 = FULL
            """);
    }

    private static void clocks() {
        Script.run("20: no TICKETS: a TOWN is joined with itself alone", """
            clocks 0 1 2 = 0
            clocks 0 1 0 = NOT
            clocks 0 1 1 = NOT
            clocks 0 0 * = -1 1 1
            clocks 7 7 * = -1 1 1
            """);
        Script.run("20: joined over others", """
            ticket 0 1 5 5
            ticket 2 3 5 5
            clocks 0 2 2 = 0
            clocks 0 3 0 = NOT
            clocks 1 3 2 = 0
            ticket 3 1 5 5
            clocks 0 2 * = -3 3 1
            clocks 0 3 * = -2 2 1
            clocks 2 0 * = -3 3 1
            clocks 0 4 2 = 0
            clocks 4 5 2 = 0
            """);
        Script.run("20: not joined with others, however far the clocks are apart", """
            ticket 1 2 9999 0
            ticket 4 5 0 9999
            clocks 1 2 2 = 1
            clocks 5 4 2 = 1
            clocks 0 1 2 = 0
            clocks 0 2 2 = 0
            clocks 1 0 2 = 0
            clocks 2 0 2 = 0
            clocks 1 4 2 = 0
            clocks 1 5 2 = 0
            clocks 2 4 2 = 0
            clocks 2 5 2 = 0
            clocks 4 1 2 = 0
            clocks 4 2 2 = 0
            clocks 5 1 2 = 0
            clocks 5 2 2 = 0
            clocks 7 1 0 = NOT
            clocks 7 5 1 = NOT
            clocks 2 7 1 = NOT
            clocks 4 7 0 = NOT
            """);
        Script.run("20: the longest way round: seven TICKETS", """
            ticket 0 1 0 9999
            ticket 1 2 0 9999
            ticket 2 3 0 9999
            ticket 3 4 0 9999
            ticket 4 5 0 9999
            ticket 5 6 0 9999
            ticket 6 7 0 9999
            clocks 0 7 * = 69986 70000 1
            clocks 7 0 * = -70000 -69986 1
            clocks 1 7 * = 59988 60000 1
            """);
        Script.run("20: by several of the same two TOWNS, either way round", """
            ticket 3 5 10 20
            clocks 3 5 * = 9 11 1
            ticket 5 3 21 10
            clocks 3 5 * = 10 11 1
            clocks 5 3 * = -11 -10 1
            ticket 3 5 10 20
            clocks 3 5 * = 10 11 1
            """);
        Script.run("20: what two of three say of the third", """
            ticket 0 1 5 5
            ticket 1 2 5 5
            clocks 0 2 * = -2 2 1
            ticket 0 2 5 7
            clocks 0 2 * = 1 2 1
            clocks 0 1 * = 0 1 1
            clocks 1 2 * = 0 1 1
            clocks 2 0 * = -2 -1 1
            """);
    }

    private static void quarrels() {
        Script.run("20: of two TICKETS one apart there is a row, of two apart none; then they QUARREL all", """
            ticket 0 1 5 5 = 1
            ticket 0 1 5 6 = 2
            clocks 0 1 * = 0 1 1
            ticket 2 3 5 5 = 3
            clocks 2 3 * = -1 1 1
            ticket 0 1 5 7 = 4
            clocks 0 1 2 = -2
            clocks 0 1 0 = NOT
            clocks 0 1 1 = NOT
            clocks 2 3 2 = -2
            clocks 2 3 0 = NOT
            clocks 4 5 2 = -2
            clocks 4 5 0 = NOT
            clocks 6 6 2 = -2
            clocks 6 6 0 = NOT
            clocks 6 6 1 = NOT
            clocks 8 0 2 = UNKNOWN
            clocks 0 1 3 = OUTSIDE
            ticket 0 1 5 5 = 5
            clocks 0 1 2 = -2
            ticket 6 7 5 5 = 6
            clocks 6 7 2 = -2
            """);
        Script.run("20: two apart and nothing between", """
            ticket 0 1 5 5
            ticket 0 1 5 7
            clocks 0 1 2 = -2
            """);
        Script.run("20: as far apart as can be", """
            ticket 0 1 0 9999
            ticket 0 1 9999 0
            clocks 0 1 2 = -2
            clocks 7 6 2 = -2
            """);
        Script.run("20: three apart", """
            ticket 6 7 5 5
            ticket 7 6 5 8
            clocks 0 1 2 = -2
            """);
        Script.run("20: either way round", """
            ticket 0 1 5 6
            ticket 1 0 5 5
            clocks 0 1 * = 0 1 1
            ticket 1 0 5 6
            clocks 0 1 2 = -2
            """);
        Script.run("20: round three: two more is a row, three more is none", """
            ticket 5 6 0 0
            ticket 6 7 0 0
            ticket 5 7 0 2
            clocks 5 7 * = 1 2 1
            ticket 5 7 0 3
            clocks 5 7 2 = -2
            """);
        Script.run("20: round three at once", """
            ticket 5 6 0 0
            ticket 6 7 0 0
            ticket 5 7 0 3
            clocks 0 1 2 = -2
            """);
        Script.run("20: round eight: as far as seven less one, not as far as eight", """
            ticket 0 1 0 0
            ticket 1 2 0 0
            ticket 2 3 0 0
            ticket 3 4 0 0
            ticket 4 5 0 0
            ticket 5 6 0 0
            ticket 6 7 0 0
            clocks 0 7 * = -7 7 1
            ticket 0 7 0 7
            clocks 0 7 * = 6 7 1
            clocks 0 1 * = 0 1 1
            ticket 0 7 0 8
            clocks 0 7 2 = -2
            """);
    }

    private static void clocksRefused() {
        String refusals = """
            clocks -1 0 2 = UNKNOWN
            clocks 8 0 2 = UNKNOWN
            clocks 0 -1 2 = UNKNOWN
            clocks 0 8 2 = UNKNOWN
            clocks MIN 0 2 = UNKNOWN
            clocks 0 MAX 2 = UNKNOWN
            clocks 256 1 2 = UNKNOWN
            clocks 8 8 0 = UNKNOWN
            clocks 8 0 3 = UNKNOWN
            clocks 0 8 -1 = UNKNOWN
            clocks 0 1 -1 = OUTSIDE
            clocks 0 1 3 = OUTSIDE
            clocks 0 0 3 = OUTSIDE
            clocks 0 1 MIN = OUTSIDE
            clocks 0 1 MAX = OUTSIDE
            clocks 0 1 256 = OUTSIDE
            clocks 3 7 3 = OUTSIDE
            clocks 3 7 0 = NOT
            clocks 3 7 1 = NOT
            clocks 3 7 2 = 0
            """;
        Script.run("20: refused, new", refusals);
        Script.run("20: refused", Rooms.ORDINARY + refusals);
        Script.run("20: refused, full", Rooms.FULL_AND_OVER + refusals);
    }

    // ---- HOURS

    private static void need() {
        String refusals = """
            need -1 0 = OUTSIDE
            need 12 0 = OUTSIDE
            need MIN 0 = OUTSIDE
            need MAX 0 = OUTSIDE
            need 256 0 = OUTSIDE
            need 0 -1 = OUTSIDE
            need 0 10 = OUTSIDE
            need 11 MIN = OUTSIDE
            need 11 MAX = OUTSIDE
            need 11 256 = OUTSIDE
            need -1 10 = OUTSIDE
            need 12 -1 = OUTSIDE
            """;
        Script.run("21: the least and the greatest; refused", refusals + """
            need 0 9 = 0
            need 0 0 = 9
            need 11 9 = 0
            need 11 8 = 9
            need 11 0 = 8
            need 5 1 = 0
            need 5 1 = 1
            """);
        Script.run("21: refused", Rooms.ORDINARY + refusals + "need 4 9 = 2\nneed 3 1 = 0");
        Script.run("21: refused, full", Rooms.FULL_AND_OVER + refusals + "need 4 0 = 2");
    }

    private static void shifts() {
        String refusals = """
            shifts -2 = OUTSIDE
            shifts 9 = OUTSIDE
            shifts MIN = OUTSIDE
            shifts MAX = OUTSIDE
            shifts 256 = OUTSIDE
            """;
        Script.run("22: refused, new", refusals + "shifts NONE = 0\nshifts * = 0 0 0 0 0 0 0 0 0");
        Script.run("22: refused", Rooms.ORDINARY + refusals + "shifts NONE = 2\nshifts * = 0 0 0 0 2 0 0 0 0");
        Script.run("22: refused, full", Rooms.FULL_AND_OVER + refusals + "shifts 4 = 2");
        for (int hour = 0; hour < 12; hour++) {
            StringBuilder due = new StringBuilder();
            for (int i = 0; i < 9; i++) {
                due.append(' ').append(i == Math.min(hour, 8) ? 9 : 0);
            }
            Script.run("22: one hour alone, " + hour, "need " + hour + " 9 = 0\nshifts NONE = 9\nshifts * =" + due);
        }
        Script.run("22: each hour the same", """
            need 0 9
            need 1 9
            need 2 9
            need 3 9
            need 4 9
            need 5 9
            need 6 9
            need 7 9
            need 8 9
            need 9 9
            need 10 9
            need 11 9
            shifts NONE = 27
            shifts * = 9 0 0 0 9 0 0 0 9
            need 0 0
            # hours 1 to 11
            shifts NONE = 27
            shifts * = 0 9 0 0 0 9 0 0 9
            need 11 0
            shifts NONE = 27
            shifts * = 0 9 0 0 0 9 0 0 9
            need 10 0
            need 9 0
            # hours 1 to 8
            shifts NONE = 18
            shifts * = 0 9 0 0 0 9 0 0 0
            """);
        Script.run("22: four hours, not three, not five", """
            need 2 1
            need 5 1
            shifts NONE = 1
            shifts 2 = 1
            need 6 1
            shifts NONE = 2
            shifts 2 = 1
            shifts 6 = 1
            need 2 0
            shifts NONE = 1
            shifts 5 = 1
            """);
        Script.run("22: at the end of the day", """
            need 8 3
            need 11 5
            shifts NONE = 5
            shifts 8 = 5
            need 7 5
            shifts NONE = 10
            shifts 7 = 5
            shifts 8 = 5
            need 7 4
            shifts 8 = 5
            shifts 7 = 4
            """);
    }

    // ---- BESIDE

    private static void besideRefused() {
        String outside = """
            beside 0 0 -1 = OUTSIDE
            beside 0 0 5 = OUTSIDE
            beside 0 0 MIN = OUTSIDE
            beside 0 0 MAX = OUTSIDE
            beside 0 0 256 = OUTSIDE
            """;
        String unknown = """
            beside -1 0 0 = UNKNOWN
            beside 0 -1 0 = UNKNOWN
            beside MIN 0 0 = UNKNOWN
            beside MAX 0 0 = UNKNOWN
            beside 0 MIN 0 = UNKNOWN
            beside 0 MAX 0 = UNKNOWN
            beside 64 0 0 = UNKNOWN
            beside 0 16 0 = UNKNOWN
            beside 0x40000000 0 0 = UNKNOWN
            beside 0 0x40000000 0 = UNKNOWN
            beside -1 -1 -1 = UNKNOWN
            beside 64 0 5 = UNKNOWN
            beside 0 16 5 = UNKNOWN
            """;
        Script.run("23: refused, new", unknown + outside + """
            beside 1 0 0 = UNKNOWN
            beside 0 1 0 = UNKNOWN
            beside 1 1 5 = UNKNOWN
            beside 0 0 * = 0 0 0 0 0
            """);
        Script.run("23: refused", Rooms.ORDINARY + unknown + outside + """
            beside 2 0 0 = UNKNOWN
            beside 3 0 0 = UNKNOWN
            beside 0 2 0 = UNKNOWN
            beside 0 3 0 = UNKNOWN
            beside 1 1 5 = OUTSIDE
            beside 1 1 -1 = OUTSIDE
            beside 0 0 * = 8 1 1 15 0
            beside 1 0 * = 8 1 1 15 0
            # the OFFER lets 0 to 2 talk in 2
            beside 0 1 * = 6 1 1 15 0
            beside 1 1 0 = 6
            """);
        Script.run("23: refused, full", Rooms.FULL + unknown + outside + """
            beside 63 15 5 = OUTSIDE
            beside 63 15 0 = 6
            beside 0 0 0 = 8
            """);
        Script.run("23: refused, NOW is 480", Rooms.FULL_AND_OVER + unknown + outside);
        Script.run("23: six ORDERS, each bit", """
            wire 0 1 10
            6x order 0 'charge 7 to 900;'
            order 0 = FULL
            book 0 1 1 0 0
            go 2
            beside 63 0 3 = 10
            beside 62 0 3 = 7
            beside 31 0 3 = 7
            beside 32 0 3 = 7
            beside 64 0 3 = UNKNOWN
            beside 0 0 3 = 7
            """);
        Script.run("23: four OFFERS, each bit", """
            offer 0 1 10 0
            offer 1 2 10 0
            offer 2 3 10 0
            offer 3 4 10 0
            book 0 1 60 0 0
            book 1 2 60 0 0
            book 2 3 60 0 0
            book 3 4 60 0 0
            go 1 = 0
            beside 0 0 0 = 4
            beside 0 1 0 = 3
            beside 0 8 0 = 3
            beside 0 7 0 = 1
            beside 0 15 0 = 0
            beside 0 16 0 = UNKNOWN
            """);
    }

    private static void beside() {
        Script.run("23: MINUTES that are done, and no other", """
            wire 0 1 10
            book 0 1 1 0 0
            book 0 1 1 0 0
            beside 0 0 * = 0 0 0 0 0
            go 1
            beside 0 0 * = 1 0 0 0 0
            go 1
            beside 0 0 * = 1 1 0 10 0
            go 1
            beside 0 0 * = 1 2 0 20 0
            """);
        Script.run("23: the whole day", """
            hands 0 0
            wire 0 1 10
            wire 2 3 10
            8x book 2 3 60 0 0
            book 0 1 1 2 479
            book 0 1 1 0 0
            go 200
            go 200
            go 80
            # 60 and 120 and so on up to 420, 1 and 480
            count 14 = 2161
            beside 0 0 * = 2161 7 0 1400 0
            """);
        Script.run("23: nothing of it is seen in the room", Rooms.ORDINARY + """
            beside 1 1 * = 6 1 1 15 0
            count * = 4 4 7 1 1 2 1 1 1 0 1 1 1 3 8 15
            told 6 6 = 1
            about 0 * = 0 1 10 NONE 6 0 1
            go 1 = 0
            about 0 6 = 1
            """);
        Script.run("23: RINGS by the ORDERS that are not left out", """
            wire 0 1 10
            wire 1 2 10
            order 0 'hold 60;'
            order 0 'charge 6 to 900;'
            book 1 2 2 0 0
            go 1
            book 0 2 5 0 0
            go 1
            book 2 0 5 1 0
            go 2
            beside 0 0 4 = 1
            beside 2 0 4 = 1
            beside 1 0 4 = 0
            beside 3 0 4 = 0
            go 20
            beside 0 0 3 = 42
            beside 2 0 3 = 70
            count 9 = 1
            """);
        Script.run("23: a strike that is left out strikes none", """
            wire 0 1 10
            order 0 'charge 3 to 900;'
            order 0 'strike 0;'
            book 0 1 1 0 0
            go 2
            beside 0 0 3 = 10
            beside 2 0 3 = 3
            beside 1 0 3 = 10
            beside 3 0 3 = 10
            """);
    }

    private static void besideAsItIsNow() {
        Script.run("23: WIRES, spans, HANDS and ORDERS as they are now", """
            book 0 1 2 0 0
            book 0 1 2 0 0
            go 4
            count 14 = 8
            beside 0 0 0 = 8
            wire 0 1 10
            beside 0 0 * = 2 1 0 10 0
            span 0 1 1 1
            beside 0 0 * = 2 0 1 5 0
            hands 0 0
            beside 0 0 * = 8 0 0 0 0
            hands 0 1
            beside 0 0 * = 2 0 1 5 0
            order 0 'back 100;'
            beside 0 0 * = 2 0 1 0 0
            wire 0 1 10
            beside 0 0 0 = 1
            count 14 = 8
            """);
        Script.run("23: one BESIDE leaves nothing to the next one", """
            wire 0 1 10
            offer 0 1 9 0
            book 0 1 60 0 0
            book 0 1 60 0 0
            go 3
            beside 0 0 0 = 3
            beside 0 1 0 = 0
            beside 0 0 0 = 3
            beside 0 1 0 = 0
            go 1
            beside 0 1 0 = 0
            beside 0 0 0 = 4
            plan 0 * = 1 0 0
            """);
        Script.run("23: asked before and after something is changed", """
            wire 0 1 10
            wire 1 2 10
            offer 0 2 10 5
            book 0 1 3 0 0
            book 0 2 2 0 0
            go 4
            # 0 to 2 has waited 3
            beside 0 0 0 = 3
            plan 5 * = 1 5 0
            plan 4 * = 0 0 3
            order 0 'ways 1;' = 0
            beside 0 0 0 = 4
            plan 4 2 = 4
            plan 5 2 = 0
            order 0 'strike 0;' = 1
            beside 0 0 0 = 3
            plan 4 2 = 3
            span 0 0 3 3 = 1
            beside 0 0 0 = 4
            plan 4 2 = 4
            wire 0 1 10 = 2
            beside 0 0 0 = 0
            plan 4 * = 0 0 0
            hands 0 0 = 3
            beside 0 0 0 = 8
            plan 4 2 = 8
            plan 5 * = 0 0 8
            hands 0 3 = 0
            beside 0 0 0 = 0
            book 5 6 1 0 0 = 2
            plan 5 2 = 0
            go 2
            beside 0 0 0 = 2
            plan 5 2 = 2
            cancel 2 = 1
            go 2
            beside 0 0 0 = 2
            plan 5 2 = 2
            offer 5 6 1 4 = 1
            plan 5 * = 2 4 0
            beside 0 2 0 = 0
            """);
        Script.run("23: next by when they were booked, before what is short", """
            order 0 'next booked, short;'
            wire 0 1 10
            book 0 1 4 0 0
            book 0 1 9 0 0
            go 1
            book 0 1 1 0 0
            go 6
            told 1 7 = 4
            count 14 = 10
            beside 0 0 0 = 10
            # by fixed, first, booked it is the same; by numbers too
            beside 1 0 0 = 10
            """);
        Script.run("23: next by when they were booked, not by how they fared", """
            order 0 'next booked, short;'
            order 0 'next short;'
            wire 0 1 10
            book 0 1 4 0 0
            book 0 1 9 0 0
            go 1
            book 0 1 1 0 0
            go 6
            count 14 = 8
            beside 0 0 0 = 8
            beside 2 0 0 = 10
            """);
        Script.run("23: a CALL booked NOW has waited nowhere", """
            book 0 1 2 0 0
            go 1
            book 0 1 2 0 0
            book 0 1 2 2 5
            beside 0 0 0 = 1
            go 5
            beside 0 0 0 = 12
            """);
    }

    private static void besideCancelled() {
        Script.run("23: CANCELLED when it was", """
            book 0 1 2 0 0
            go 3
            cancel 0 = 1
            go 3
            beside 0 0 0 = 3
            wire 0 1 10
            beside 0 0 * = 0 1 0 10 0
            hands 0 0
            beside 0 0 * = 3 0 0 0 0
            """);
        Script.run("23: CANCELLED NOW: it has waited till now", """
            book 0 1 2 0 0
            go 3
            cancel 0 = 1
            beside 0 0 0 = 3
            """);
        Script.run("23: one that is HELD there lets go when it is CANCELLED", """
            wire 0 1 10
            wire 1 2 10
            order 0 'hold 60;'
            book 1 2 60 0 0
            go 1
            book 0 2 5 0 0
            book 0 1 5 0 0
            go 3
            cancel 1 = 1
            go 2
            count 14 = 6
            beside 0 0 0 = 6
            # without the hold 0 to 1 talks at once
            beside 1 0 0 = 3
            """);
        Script.run("23: what was booked again is so there too", """
            wire 0 1 10
            span 0 0 2 2
            book 0 1 5 0 0
            go 3
            again 0 = 1
            go 5
            beside 0 0 * = 0 1 1 15 0
            offer 0 1 5 0
            beside 0 1 * = 0 2 0 30 0
            """);
    }

    // ---- OFFERS, THE PLAN

    private static void offer() {
        String refusals = """
            offer -1 0 5 5 = UNKNOWN
            offer 8 0 5 5 = UNKNOWN
            offer 0 -1 5 5 = UNKNOWN
            offer 0 8 5 5 = UNKNOWN
            offer MIN 0 5 5 = UNKNOWN
            offer 0 MAX 5 5 = UNKNOWN
            offer 256 1 5 5 = UNKNOWN
            offer 8 8 5 5 = UNKNOWN
            offer -1 -1 0 -1 = UNKNOWN
            offer 0 8 301 10000 = UNKNOWN
            offer 0 0 5 5 = OUTSIDE
            offer 7 7 5 5 = OUTSIDE
            offer 0 1 0 5 = OUTSIDE
            offer 0 1 301 5 = OUTSIDE
            offer 0 1 MIN 5 = OUTSIDE
            offer 0 1 MAX 5 = OUTSIDE
            offer 0 1 65537 5 = OUTSIDE
            offer 0 1 5 -1 = OUTSIDE
            offer 0 1 5 10000 = OUTSIDE
            offer 0 1 5 MIN = OUTSIDE
            offer 0 1 5 MAX = OUTSIDE
            offer 0 1 5 65536 = OUTSIDE
            offer 3 3 0 10000 = OUTSIDE
            """;
        Script.run("24: the least and the greatest; four, and none more", """
            offer 0 7 1 0 = 0
            offer 7 0 300 9999 = 1
            offer 0 7 1 0 = 2
            offer 6 7 299 9998 = 3
            offer 0 7 1 0 = FULL
            offer 0 0 1 0 = OUTSIDE
            offer 0 8 1 0 = UNKNOWN
            count 12 = 4
            """);
        Script.run("24: refused, new", refusals);
        Script.run("24: refused", Rooms.ORDINARY + refusals);
        Script.run("24: refused, full", Rooms.FULL_AND_OVER + refusals + """
            offer 0 1 5 5 = FULL
            offer 0 1 300 9999 = FULL
            """);
        Script.run("24: an OFFER is no WIRE", """
            4x offer 0 1 10 0 = 0+
            count 1 = 0
            about 0 0 = UNKNOWN
            span 0 0 0 0 = UNKNOWN
            ways 0 1 3 0 0 = NONE
            book 0 1 1 0 0
            go 1 = 0
            told 0 13 = NONE
            wire 0 1 10 = 0
            ways 0 1 3 1 0 = NONE
            """);
        Script.run("24: four OFFERS beside sixteen WIRES", """
            16x wire 6 7 10
            3x offer 6 7 10 0
            offer 0 1 10 0 = 3
            book 0 1 1 0 0
            go 1 = 0
            beside 0 7 0 = 1
            beside 0 8 0 = 0
            plan 0 * = 8 0 0
            """);
    }

    private static void offersBeside() {
        Script.run("23: an OFFER comes behind the WIRES, of MILES alike", """
            wire 0 1 10
            span 0 1 2 2
            offer 0 1 10 0
            offer 0 1 9 0
            offer 0 1 11 0
            book 0 1 5 0 0
            go 6
            beside 0 0 2 = 1
            beside 0 1 2 = 1
            beside 0 2 2 = 0
            beside 0 4 2 = 1
            beside 0 7 2 = 0
            """);
        Script.run("23: two OFFERS and a WIRE make a WAY", """
            wire 1 2 10
            offer 0 1 10 0
            offer 2 3 10 0
            order 0 'ways 3;charge 4 to 30;charge 3 to 29;'
            book 0 3 3 0 0
            go 4
            beside 0 0 * = 4 0 0 0 0
            beside 0 1 * = 4 0 0 0 0
            beside 0 3 * = 0 1 0 4 0
            beside 1 3 * = 4 0 0 0 0
            """);
    }

    private static void planRefused() {
        String refusals = """
            plan -1 0 = OUTSIDE
            plan 100000 0 = OUTSIDE
            plan MIN 0 = OUTSIDE
            plan MAX 0 = OUTSIDE
            plan 0 -1 = OUTSIDE
            plan 0 3 = OUTSIDE
            plan 0 MIN = OUTSIDE
            plan 0 MAX = OUTSIDE
            plan 0 256 = OUTSIDE
            plan -1 3 = OUTSIDE
            plan 100000 -1 = OUTSIDE
            """;
        Script.run("25: refused, new", refusals + "plan 0 * = 0 0 0\nplan 99999 * = 0 0 0");
        Script.run("25: refused", Rooms.ORDINARY + refusals + "plan 0 * = 0 0 8\nplan 9 * = 0 0 8\nplan 10 * = 1 10 6");
        Script.run("25: refused, full", Rooms.FULL_AND_OVER + refusals);
    }

    private static void plan() {
        Script.run("25: all that is to be had, to the last COIN", """
            book 0 1 60 0 0
            book 1 2 60 0 0
            book 2 3 60 0 0
            book 3 4 60 0 0
            go 1
            offer 0 1 10 9999
            offer 1 2 10 9999
            offer 2 3 10 9999
            offer 3 4 10 9999
            plan 9998 * = 0 0 4
            plan 9999 * = 1 9999 3
            plan 19997 * = 1 9999 3
            plan 19998 * = 3 19998 2
            plan 29997 * = 7 29997 1
            plan 39995 * = 7 29997 1
            plan 39996 * = 15 39996 0
            plan 99999 * = 15 39996 0
            plan 0 * = 0 0 4
            """);
        Script.run("25: for no COIN", """
            book 0 1 60 0 0
            go 1
            offer 2 3 10 0
            offer 0 1 10 1
            plan 0 * = 0 0 1
            plan 1 * = 2 1 0
            offer 0 1 10 0
            plan 0 * = 4 0 0
            plan 1 * = 4 0 0
            """);
        Script.run("25: of like ones the least COIN, then the least SET", """
            book 0 1 60 0 0
            book 2 3 60 0 0
            go 1
            offer 0 1 10 3
            offer 2 3 10 3
            plan 5 * = 1 3 1
            plan 6 * = 3 6 0
            offer 2 3 10 2
            plan 4 * = 4 2 1
            plan 5 * = 5 5 0
            plan 6 * = 5 5 0
            offer 0 1 10 3
            plan 6 * = 5 5 0
            """);
        Script.run("25: of one COIN the least SET, though it has more OFFERS", """
            book 0 2 60 0 0
            go 1
            offer 0 1 10 3
            offer 1 2 10 3
            offer 0 2 10 6
            plan 5 * = 0 0 1
            plan 6 * = 3 6 0
            offer 0 2 10 5
            plan 6 * = 8 5 0
            plan 5 * = 8 5 0
            plan 4 * = 0 0 1
            """);
        Script.run("25: an OFFER that helps nothing is not in it; nothing WAITED, nothing is", """
            wire 0 1 10
            book 0 1 60 0 0
            offer 0 1 10 0
            plan 0 * = 0 0 0
            go 5
            plan 99999 * = 0 0 0
            book 0 1 60 0 0
            go 1
            plan 99999 * = 1 0 0
            """);
        Script.run("25: an OFFER with which more is WAITED is not in it", """
            wire 1 2 10
            offer 0 1 10 0
            book 0 2 60 1 0
            3x book 1 2 1 0 0
            go 10
            beside 0 0 0 = 13
            beside 0 1 0 = 30
            plan 0 * = 0 0 13
            plan 99999 * = 0 0 13
            """);
        Script.run("25: no ORDERS are left out", """
            order 0 'ways 1;'
            order 0 'next short;'
            offer 0 1 10 5
            offer 1 2 10 5
            offer 0 2 10 9
            book 0 2 5 0 0
            book 0 2 1 0 0
            go 3
            # by one WIRE alone; the short one goes first
            plan 99999 * = 4 9 1
            plan 8 * = 0 0 6
            """);
        Script.run("25: by all ORDERS, in NOW 480 as well", Rooms.ORDINARY + """
            go 200
            go 200
            go 76
            plan 10 1 = 10
            plan 9 0 = 0
            """);
    }
}
