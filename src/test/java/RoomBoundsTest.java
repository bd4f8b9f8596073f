/** Promises 1 to 6 (new objects, WIRES, spans, HANDS): every bound, both sides of it, and every refusal. */
public final class RoomBoundsTest {
    private static final int NONE = -1;

    private RoomBoundsTest() { }

    public static void main(String[] args) {
        newObject();
        wire();
        wireRefused();
        span();
        spanRefused();
        hands();
        about();
        count();
        Script.end();
    }

    private static void newObject() {
        Script.run("1: there is nothing yet", """
            count * = 0 0 0 0 0 0 0 0 0 0 0 0 0 0 0 0
            wrong * = 0 0 0
            fault = NONE
            shifts NONE = 0
            shifts * = 0 0 0 0 0 0 0 0 0
            force 0 * = 2 0 5 6 50 3 0 1 2 NONE NONE
            force 479 * = 2 0 5 6 50 3 0 1 2 NONE NONE
            force 0 21 = 10
            force 479 920 = 10
            force 0 1000 = 100
            force 479 1000 = 100
            beside 0 0 * = 0 0 0 0 0
            plan 0 * = 0 0 0
            plan 99999 * = 0 0 0
            clocks 0 7 2 = 0
            clocks 7 7 2 = 1
            clocks 0 7 0 = NOT
            clocks 0 7 1 = NOT
            ways 0 7 1 0 NONE = NONE
            ways 0 7 3 0 0 = NONE
            about 0 0 = UNKNOWN
            span 0 0 0 0 = UNKNOWN
            told 0 0 = UNKNOWN
            way 0 0 = UNKNOWN
            cancel 0 = UNKNOWN
            again 0 = UNKNOWN
            beside 1 0 0 = UNKNOWN
            beside 0 1 0 = UNKNOWN
            need 0 0 = 0
            need 11 0 = 0
            """);
        Script.run("1: three HANDS in each TOWN", """
            hands 0 0 = 3
            hands 1 0 = 3
            hands 2 0 = 3
            hands 3 0 = 3
            hands 4 0 = 3
            hands 5 0 = 3
            hands 6 0 = 3
            hands 7 0 = 3
            """);
        Script.run("1: the whole day goes by with nothing in it", """
            go 0 = 0
            count 0 = 0
            go 200 = 0
            go 200 = 0
            go 80 = 0
            count * = 480 0 0 0 0 0 0 0 0 0 0 0 0 0 0 0
            beside 0 0 * = 0 0 0 0 0
            plan 99999 * = 0 0 0
            """);
        Script.run("1: WIRES and no CALLS", """
            wire 0 1 10 = 0
            go 1 = 0
            about 0 * = 0 1 10 NONE NONE 0 0
            """);
        Script.run("1: CALLS and no WIRES", """
            book 0 1 1 0 0 = 0
            book 1 0 1 1 0 = 1
            order 0 'next far; hold 60; ways 3;' = 0
            go 200 = 0
            told 0 9 = 200
            told 0 13 = NONE
            told 1 6 = 0
            count 14 = 400
            """);
        // what one object is told another one does not know
        TrunkRoom x = new TrunkRoom();
        TrunkRoom y = new TrunkRoom();
        x.wire(0, 1, 5);
        x.book(0, 1, 1, 0, 0);
        x.hands(0, 1);
        x.ticket(0, 1, 5, 5);
        x.need(0, 1);
        x.feed(1, 'h');
        x.order(0);
        x.go(1);
        if (y.count(0) + y.count(1) + y.count(2) + y.count(11) + y.shifts(NONE) != 0 || y.hands(0, 3) != 3
                || y.fault() != NONE || y.clocks(0, 1, 2) != 0) {
            Script.fails("1", "two objects are not apart");
        }
    }

    private static void wire() {
        Script.run("2: the least and the greatest", """
            wire 0 7 1 = 0
            wire 7 0 300 = 1
            wire 0 1 2 = 2
            wire 6 7 299 = 3
            about 0 * = 0 7 1 NONE NONE 0 0
            about 1 * = 7 0 300 NONE NONE 0 0
            count 1 = 4
            """);
        Script.run("2: sixteen, the same two TOWNS again", """
            16x wire 3 4 7 = 0+
            wire 3 4 7 = FULL
            wire 0 1 7 = FULL
            count 1 = 16
            about 15 * = 3 4 7 NONE NONE 0 0
            about 16 0 = UNKNOWN
            ways 3 4 1 15 0 = 15
            ways 3 4 1 16 0 = NONE
            """);
        Script.run("2: the sixteenth is talked on", """
            15x wire 0 1 7 = 0+
            wire 2 3 7 = 15
            book 2 3 2 0 0 = 0
            go 2 = 1
            about 15 * = 2 3 7 NONE 0 0 2
            span 15 0 2 2 = 1
            about 15 3 = 0
            """);
        Script.run("2: a WIRE made later is there from then on", """
            book 0 1 2 0 0 = 0
            go 3 = 0
            wire 0 1 7 = 0
            go 1 = 1
            told 0 7 = 3
            about 0 5 = 0
            """);
    }

    private static void wireRefused() {
        String refusals = """
            wire -1 0 5 = UNKNOWN
            wire 8 0 5 = UNKNOWN
            wire 0 -1 5 = UNKNOWN
            wire 0 8 5 = UNKNOWN
            wire MIN 0 5 = UNKNOWN
            wire MAX 0 5 = UNKNOWN
            wire 0 MIN 5 = UNKNOWN
            wire 0 MAX 5 = UNKNOWN
            wire 256 1 5 = UNKNOWN
            wire 0 65537 5 = UNKNOWN
            wire 8 8 5 = UNKNOWN
            wire -1 -1 0 = UNKNOWN
            wire 0 8 0 = UNKNOWN
            wire 8 1 301 = UNKNOWN
            wire 0 0 5 = OUTSIDE
            wire 7 7 5 = OUTSIDE
            wire 3 3 0 = OUTSIDE
            wire 0 1 0 = OUTSIDE
            wire 0 1 301 = OUTSIDE
            wire 0 1 -1 = OUTSIDE
            wire 0 1 MIN = OUTSIDE
            wire 0 1 MAX = OUTSIDE
            wire 0 1 65546 = OUTSIDE
            """;
        Script.run("2: refused, new", refusals);
        Script.run("2: refused", Rooms.ORDINARY + refusals);
        Script.run("2: refused, full", Rooms.FULL + refusals + """
            wire 0 1 1 = FULL
            wire 7 6 300 = FULL
            """);
        Script.run("2: not refused at the end of the day", Rooms.OVER + "wire 0 1 1 = 4");
    }

    private static void span() {
        Script.run("3: both MINUTES of a span are in it", """
            wire 0 1 10
            span 0 1 5 6 = 1
            go 4
            about 0 3 = NONE
            go 1
            about 0 3 = 1
            go 1
            about 0 3 = 1
            go 1
            about 0 3 = NONE
            """);
        Script.run("3: what is ENDED in the MINUTE before, or in the first one, is not CUT", """
            wire 0 1 10
            wire 0 2 10
            wire 0 3 10
            span 0 0 5 6
            span 1 1 5 6
            span 2 2 5 6
            book 0 1 4 0 0
            book 0 2 5 0 0
            book 0 3 6 0 0
            go 5 = 3
            told 0 6 = 3
            told 0 8 = 4
            book 0 1 1 0 0 = 3
            go 1 = 0
            told 1 6 = 3
            told 1 8 = 5
            told 2 6 = 4
            told 2 8 = 5
            go 1 = 0
            told 3 9 = 2
            go 1 = 1
            told 3 7 = 7
            """);
        Script.run("3: of one MINUTE, the first and the last of the day", """
            wire 0 1 10
            wire 0 2 10
            wire 0 3 10
            span 0 0 0 0 = 1
            span 1 1 479 479 = 2
            span 2 2 0 479 = 3
            book 0 1 1 0 0
            book 0 2 60 2 419
            book 0 3 1 0 0
            about 0 3 = 0
            about 1 3 = NONE
            about 2 3 = 2
            go 1 = 0
            about 0 3 = NONE
            go 1 = 1
            told 0 7 = 1
            go 200
            go 200
            go 76
            about 1 3 = NONE
            go 1
            about 1 3 = 1
            about 2 3 = 2
            told 1 6 = 2
            told 1 7 = 419
            go 1
            told 1 6 = 3
            told 1 8 = 479
            about 1 3 = NONE
            about 2 3 = NONE
            told 2 9 = 480
            told 2 6 = 0
            """);
        Script.run("3: CUT in the last MINUTE", """
            wire 0 1 10
            span 0 0 479 479
            book 0 1 2 2 478
            go 200
            go 200
            go 79
            told 0 6 = 2
            go 1
            told 0 6 = 4
            told 0 8 = 479
            """);
        Script.run("3: the KIND of the first span that holds NOW", """
            wire 0 1 10
            wire 0 1 10
            span 1 0 0 9 = 1
            span 0 2 1 3 = 2
            span 0 1 0 2 = 3
            span 0 0 2 4 = 4
            about 0 3 = 1
            go 1
            about 0 3 = 2
            go 2
            about 0 3 = 2
            go 1
            about 0 3 = 0
            go 1
            about 0 3 = NONE
            about 1 3 = 0
            """);
        Script.run("3: thirty in all", """
            wire 0 1 10
            wire 0 1 10
            15x span 0 0 7 9 = 1+
            15x span 1 0 7 9 = 16+
            span 1 1 7 9 = FULL
            span 0 0 479 479 = FULL
            """);
        Script.run("3: the thirtieth counts", """
            wire 0 1 10
            29x span 0 0 400 400 = 1+
            span 0 2 0 0 = 30
            about 0 3 = 2
            book 0 1 1 0 0
            go 1 = 0
            go 1 = 1
            """);
        Script.run("3: a span of what is done already changes nothing that was", """
            wire 0 1 10
            book 0 1 5 0 0
            go 4 = 1
            span 0 0 0 3 = 1
            told 0 6 = 2
            about 0 3 = NONE
            go 2
            told 0 6 = 3
            """);
        Script.run("3: a span of NOW: it is CUT when NOW is done", """
            wire 0 1 10
            book 0 1 5 0 0
            go 4 = 1
            span 0 1 4 4 = 1
            about 0 * = 0 1 10 1 0 0 4
            told 0 6 = 2
            go 1
            told 0 6 = 4
            about 0 4 = NONE
            """);
    }

    private static void spanRefused() {
        String refusals = """
            span -1 0 1 1 = UNKNOWN
            span 16 0 1 1 = UNKNOWN
            span MIN 0 1 1 = UNKNOWN
            span MAX 0 1 1 = UNKNOWN
            span 256 0 1 1 = UNKNOWN
            span -1 3 480 479 = UNKNOWN
            span 16 0 1 0 = UNKNOWN
            """;
        String outside = """
            span 0 -1 1 1 = OUTSIDE
            span 0 3 1 1 = OUTSIDE
            span 0 MIN 1 1 = OUTSIDE
            span 0 MAX 1 1 = OUTSIDE
            span 0 0 -1 1 = OUTSIDE
            span 0 0 -1 -1 = OUTSIDE
            span 0 0 480 480 = OUTSIDE
            span 0 0 479 480 = OUTSIDE
            span 0 0 1 0 = OUTSIDE
            span 0 0 479 478 = OUTSIDE
            span 0 0 MIN 5 = OUTSIDE
            span 0 0 5 MAX = OUTSIDE
            span 0 0 MIN MAX = OUTSIDE
            span 0 0 MAX MIN = OUTSIDE
            span 0 0 65536 65540 = OUTSIDE
            span 3 3 5 4 = OUTSIDE
            """;
        Script.run("3: refused, no WIRES", refusals + "span 0 0 0 0 = UNKNOWN\nspan 0 3 0 0 = UNKNOWN");
        Script.run("3: refused", Rooms.ORDINARY + refusals + outside + """
            span 4 0 1 1 = UNKNOWN
            span 4 5 1 1 = UNKNOWN
            span 0 0 479 479 = 3
            span 3 2 0 0 = 4
            """);
        Script.run("3: refused, full", Rooms.FULL + refusals + outside + """
            span 0 0 0 0 = FULL
            span 15 2 479 479 = FULL
            """);
        Script.run("3: not refused at the end of the day", Rooms.OVER + "span 0 0 479 479 = 3");
    }

    private static void hands() {
        Script.run("4: the least and the greatest", """
            hands 0 0 = 3
            hands 0 9 = 0
            hands 0 1 = 9
            hands 0 8 = 1
            hands 0 8 = 8
            hands 7 9 = 3
            hands 7 0 = 9
            hands 6 3 = 3
            """);
        String refusals = """
            hands -1 3 = UNKNOWN
            hands 8 3 = UNKNOWN
            hands MIN 3 = UNKNOWN
            hands MAX 3 = UNKNOWN
            hands 256 3 = UNKNOWN
            hands -1 -1 = UNKNOWN
            hands 8 10 = UNKNOWN
            hands 0 -1 = OUTSIDE
            hands 0 10 = OUTSIDE
            hands 7 MIN = OUTSIDE
            hands 7 MAX = OUTSIDE
            hands 7 259 = OUTSIDE
            """;
        Script.run("4: refused, new", refusals + "hands 0 3 = 3\nhands 7 3 = 3");
        Script.run("4: refused", Rooms.ORDINARY + refusals);
        Script.run("4: refused, full", Rooms.FULL_AND_OVER + refusals + "hands 0 9 = 3");
        Script.run("4: nine HANDS put nine through in a MINUTE, no HAND none", """
            11x wire 0 1 10
            hands 0 9
            10x book 0 1 60 0 0
            go 1 = 9
            told 9 6 = 0
            go 1 = 1
            hands 0 0
            book 0 1 60 0 0
            go 5 = 0
            hands 0 1
            go 1 = 1
            """);
        Script.run("4: the HANDS of each TOWN for itself, of the TOWN called from", """
            4x wire 0 7 10
            hands 0 1
            hands 7 2
            2x book 0 7 60 0 0
            3x book 7 0 60 0 0
            go 1 = 3
            told 0 6 = 2
            told 1 6 = 0
            told 2 6 = 2
            told 3 6 = 2
            told 4 6 = 0
            """);
    }

    private static void about() {
        String refusals = """
            about -1 0 = UNKNOWN
            about 16 0 = UNKNOWN
            about MIN 0 = UNKNOWN
            about MAX 0 = UNKNOWN
            about 256 0 = UNKNOWN
            about -1 -1 = UNKNOWN
            about 16 7 = UNKNOWN
            """;
        String outside = """
            about 0 -1 = OUTSIDE
            about 0 7 = OUTSIDE
            about 0 MIN = OUTSIDE
            about 0 MAX = OUTSIDE
            about 3 256 = OUTSIDE
            """;
        Script.run("5: refused, no WIRES", refusals + "about 0 0 = UNKNOWN\nabout 0 7 = UNKNOWN");
        Script.run("5: refused", Rooms.ORDINARY + refusals + outside + "about 4 0 = UNKNOWN\nabout 3 6 = 4");
        Script.run("5: refused, full", Rooms.FULL_AND_OVER + refusals + outside);
        Script.run("5: IDLE and TALKING in every MINUTE of the day", """
            wire 0 1 10
            wire 2 3 10
            wire 4 5 10
            hands 2 0
            8x book 0 1 60 0 0
            book 2 3 1 0 0
            go 200
            go 200
            go 79
            about 0 * = 0 1 10 NONE 7 0 479
            about 1 * = 2 3 10 NONE NONE 479 0
            go 1
            about 0 * = 0 1 10 NONE 7 0 480
            about 1 * = 2 3 10 NONE NONE 480 0
            about 2 * = 4 5 10 NONE NONE 0 0
            """);
        Script.run("5: who has it: HELD ones too", Rooms.ORDINARY + """
            about 0 4 = 6
            about 1 4 = 2
            about 2 4 = NONE
            about 3 4 = 3
            about 2 3 = NONE
            """);
        Script.run("5: TALKING is seen behind the fourth part: the MINUTE of the end is not one", """
            wire 0 1 10
            book 0 1 1 0 0
            go 1 = 1
            about 0 6 = 1
            go 1 = 0
            about 0 6 = 1
            """);
        Script.run("5: HELD is not TALKING", Rooms.ORDINARY + """
            about 0 6 = 1
            go 5
            about 0 6 = 1
            about 1 6 = 9
            """);
        Script.run("5: not IDLE: not FREE, or not USABLE, or not in the first WAY, or no such CALL yet", """
            wire 0 1 10
            wire 0 1 10
            wire 0 1 9
            hands 0 0
            span 2 0 1 1
            go 1
            about 2 5 = 0
            book 0 1 5 2 3
            book 1 0 4 2 5
            go 2
            about 2 5 = 0
            go 2
            about 2 5 = 2
            about 0 5 = 0
            book 0 1 1 0 0
            go 3
            # minute 5: 1 0 talks on WIRE 2, four minutes
            about 2 5 = 2
            about 0 5 = 0
            go 1
            about 2 5 = 2
            go 1
            about 2 5 = 3
            span 2 0 10 10
            go 1
            about 2 5 = 3
            go 1
            about 2 5 = 4
            """);
        Script.run("5: IDLE once a MINUTE, for as many as there are", """
            wire 0 1 10
            hands 0 0
            3x book 0 1 5 0 0
            go 4
            about 0 5 = 4
            """);
        Script.run("5: IDLE by as many WIRES as ways tells", """
            wire 0 1 10
            wire 1 2 10
            wire 2 3 10
            hands 0 0
            book 0 3 5 0 0
            go 4
            about 0 5 = 0
            order 4 'ways 3;'
            go 2
            about 0 5 = 2
            about 1 5 = 2
            about 2 5 = 2
            """);
    }

    private static void count() {
        String refusals = """
            count -1 = OUTSIDE
            count 16 = OUTSIDE
            count MIN = OUTSIDE
            count MAX = OUTSIDE
            count 256 = OUTSIDE
            count 65536 = OUTSIDE
            """;
        Script.run("6: refused, new", refusals);
        Script.run("6: each number of an ordinary room", Rooms.ORDINARY + refusals + """
            count * = 4 4 7 1 1 2 1 1 1 0 1 1 1 3 8 15
            """);
        Script.run("6: each number of a full room", Rooms.FULL + refusals + """
            count * = 4 16 40 34 1 2 1 1 1 0 6 40 4 160 8 15
            """);
        Script.run("6: NOW stops at 480", Rooms.OVER + """
            count 0 = 480
            go 1 = NOT
            count 0 = 480
            """);
    }
}
