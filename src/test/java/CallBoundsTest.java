/** Promises 7 to 12 (CALLS and their WAYS): every bound, both sides of it, and every refusal. */
public final class CallBoundsTest {
    private CallBoundsTest() { }

    public static void main(String[] args) {
        book();
        bookRefused();
        fixed();
        cancel();
        again();
        againRefused();
        told();
        waitTold();
        way();
        ways();
        waysRefused();
        manyWays();
        Script.end();
    }

    private static void book() {
        Script.run("7: the least and the greatest", """
            book 0 7 1 0 0 = 0
            book 7 0 60 1 0 = 1
            book 0 1 2 2 0 = 2
            book 6 7 59 2 479 = 3
            told 0 * = 0 7 1 0 NONE 0 0 NONE NONE 0 0 0 0 NONE
            told 1 * = 7 0 60 1 NONE 0 0 NONE NONE 0 6 0 0 NONE
            told 2 * = 0 1 2 2 0 0 0 NONE NONE 0 0 0 0 NONE
            told 3 * = 6 7 59 2 479 0 0 NONE NONE 0 0 0 0 NONE
            count 2 = 4
            """);
        Script.run("7: the MINUTE of one that is not FIXED is not looked at", """
            go 10
            book 0 1 1 0 MIN = 0
            book 0 1 1 0 MAX = 1
            book 0 1 1 1 -1 = 2
            book 0 1 1 1 480 = 3
            book 0 1 1 0 9 = 4
            told 0 4 = NONE
            told 3 4 = NONE
            """);
        Script.run("7: forty", """
            40x book 0 1 1 0 0 = 0+
            book 0 1 1 0 0 = FULL
            count 2 = 40
            told 39 * = 0 1 1 0 NONE 0 0 NONE NONE 0 234 0 0 NONE
            """);
        Script.run("7: the fortieth is put through as well", """
            wire 0 1 10
            wire 2 3 10
            39x book 0 1 60 0 0
            book 2 3 2 0 0 = 39
            go 1 = 2
            told 39 6 = 2
            about 1 4 = 39
            go 2 = 0
            told 39 * = 2 3 2 0 NONE 0 3 0 2 0 0 1 10 10
            """);
        Script.run("7: a LENGTH of one MINUTE and of sixty", """
            wire 0 1 10
            wire 2 3 10
            book 0 1 1 0 0
            book 2 3 60 0 0
            go 1 = 2
            told 0 6 = 2
            go 1
            told 0 6 = 3
            told 0 8 = 1
            go 58
            count 0 = 60
            told 1 6 = 2
            go 1
            told 1 6 = 3
            told 1 8 = 60
            """);
        Script.run("7: booked in the last MINUTE", Rooms.ORDINARY + """
            go 200
            go 200
            go 75
            count 0 = 479
            book 0 1 1 0 0 = 7
            book 3 4 1 2 479 = 8
            book 3 4 1 2 478 = OUTSIDE
            go 1 = 2
            told 7 * = 0 1 1 0 NONE 479 2 479 NONE 0 0 1 0 10
            told 8 * = 3 4 1 2 479 479 2 479 NONE 0 0 1 0 10
            """);
    }

    private static void bookRefused() {
        String unknown = """
            book -1 0 5 0 0 = UNKNOWN
            book 8 0 5 0 0 = UNKNOWN
            book 0 -1 5 0 0 = UNKNOWN
            book 0 8 5 0 0 = UNKNOWN
            book MIN 0 5 0 0 = UNKNOWN
            book MAX 0 5 0 0 = UNKNOWN
            book 0 MIN 5 0 0 = UNKNOWN
            book 0 MAX 5 0 0 = UNKNOWN
            book 256 1 5 0 0 = UNKNOWN
            book 8 8 5 0 0 = UNKNOWN
            book 8 1 0 0 0 = UNKNOWN
            book 1 8 61 3 480 = UNKNOWN
            book 8 1 5 2 -1 = UNKNOWN
            """;
        String outside = """
            book 0 0 5 0 0 = OUTSIDE
            book 7 7 5 0 0 = OUTSIDE
            book 0 1 0 0 0 = OUTSIDE
            book 0 1 61 0 0 = OUTSIDE
            book 0 1 -1 0 0 = OUTSIDE
            book 0 1 MIN 0 0 = OUTSIDE
            book 0 1 MAX 0 0 = OUTSIDE
            book 0 1 257 0 0 = OUTSIDE
            book 0 1 5 -1 0 = OUTSIDE
            book 0 1 5 3 0 = OUTSIDE
            book 0 1 5 MIN 0 = OUTSIDE
            book 0 1 5 MAX 0 = OUTSIDE
            book 0 1 5 2 -1 = OUTSIDE
            book 0 1 5 2 480 = OUTSIDE
            book 0 1 5 2 MIN = OUTSIDE
            book 0 1 5 2 MAX = OUTSIDE
            book 3 3 0 3 480 = OUTSIDE
            book 3 3 5 2 480 = OUTSIDE
            """;
        Script.run("7: refused, new", unknown + outside);
        Script.run("7: refused", Rooms.ORDINARY + unknown + outside + """
            book 0 1 5 2 3 = OUTSIDE
            book 0 1 5 2 4 = 7
            """);
        Script.run("7: refused, full", Rooms.FULL + unknown + outside + """
            book 0 1 5 2 3 = OUTSIDE
            book 0 1 5 0 0 = FULL
            book 0 1 5 1 -1 = FULL
            book 0 1 5 2 4 = FULL
            """);
        Script.run("7: refused, NOW is 480", Rooms.OVER + unknown + outside + """
            book 0 1 5 2 479 = OUTSIDE
            book 0 1 5 0 0 = NOT
            book 0 1 5 1 480 = NOT
            """);
        Script.run("7: refused, NOW is 480 and full", Rooms.FULL_AND_OVER + unknown + outside + """
            book 0 1 5 2 479 = OUTSIDE
            book 0 1 5 0 0 = NOT
            """);
    }

    private static void fixed() {
        Script.run("7: FIXED for NOW, for the next MINUTE, for the last one", """
            wire 0 1 10
            wire 0 1 10
            go 5
            book 0 1 1 2 5 = 0
            book 0 1 1 2 6 = 1
            book 0 1 1 2 479 = 2
            go 1 = 1
            told 0 7 = 5
            told 1 6 = 0
            told 1 9 = 0
            go 1 = 1
            told 1 7 = 6
            go 200
            go 200
            go 72 = 0
            told 2 9 = 0
            about 0 5 = 0
            go 1 = 1
            told 2 7 = 479
            told 2 9 = 0
            """);
        Script.run("7: FIXED ones wait from their MINUTE on", """
            book 0 1 1 2 3 = 0
            go 3
            told 0 9 = 0
            go 1
            told 0 9 = 1
            go 1
            told 0 9 = 2
            """);
    }

    private static void cancel() {
        Script.run("8: CALLS in each state", Rooms.ORDINARY + """
            cancel 0 = NOT
            cancel 1 = NOT
            cancel 2 = NOT
            cancel 3 = NOT
            cancel 5 = NOT
            cancel 7 = UNKNOWN
            cancel -1 = UNKNOWN
            cancel 40 = UNKNOWN
            cancel MIN = UNKNOWN
            cancel MAX = UNKNOWN
            cancel 256 = UNKNOWN
            cancel 4 = 1
            cancel 4 = NOT
            about 0 4 = 6
            cancel 6 = 1
            about 0 4 = NONE
            cancel 6 = NOT
            count * = 4 4 7 0 0 2 1 1 3 0 1 1 1 3 8 15
            told 4 * = 5 6 5 0 NONE 0 5 NONE 4 4 3 0 0 NONE
            told 6 * = 0 2 5 0 NONE 2 5 NONE 4 2 0 0 0 NONE
            way 6 0 = NONE
            go 5
            told 4 9 = 4
            told 6 9 = 2
            """);
        Script.run("8: no CALLS", """
            cancel 0 = UNKNOWN
            cancel -1 = UNKNOWN
            """);
        Script.run("8: full", Rooms.FULL + """
            cancel 40 = UNKNOWN
            cancel 2 = NOT
            cancel 39 = 1
            book 0 1 5 0 0 = FULL
            """);
        Script.run("8: NOW is 480", Rooms.FULL_AND_OVER + """
            told 4 6 = 3
            cancel 4 = NOT
            told 39 6 = 3
            cancel 39 = NOT
            cancel 40 = UNKNOWN
            """);
        Script.run("8: what is WAITING at the end", """
            hands 0 0
            book 0 1 5 0 0
            go 200
            go 200
            go 80
            told 0 9 = 480
            cancel 0 = 1
            told 0 * = 0 1 5 0 NONE 0 5 NONE 480 480 0 0 0 NONE
            cancel 0 = NOT
            count 14 = 480
            beside 0 0 0 = 480
            """);
        Script.run("8: booked and CANCELLED in one MINUTE", """
            wire 0 1 10
            book 0 1 5 0 0
            cancel 0 = 1
            told 0 8 = 0
            go 1 = 0
            told 0 9 = 0
            about 0 5 = 0
            beside 0 0 * = 0 0 0 0 0
            """);
        Script.run("8: the WIRE that a HELD one had is there in the same MINUTE", Rooms.ORDINARY + """
            cancel 6 = 1
            book 0 1 5 0 0 = 7
            told 7 10 = 0
            go 1 = 1
            told 7 7 = 4
            """);
        Script.run("8: FIXED ones before their MINUTE", """
            book 0 1 5 2 479
            cancel 0 = 1
            told 0 * = 0 1 5 2 479 0 5 NONE 0 0 0 0 0 NONE
            """);
    }

    private static void again() {
        Script.run("9: what is left: one MINUTE less, and all but one", """
            wire 0 1 10
            wire 2 3 10
            span 0 0 1 1
            span 1 0 59 59
            book 0 1 60 1 0 = 0
            book 2 3 60 2 0 = 1
            go 2
            told 0 6 = 4
            again 0 = 2
            told 2 * = 0 1 59 0 NONE 2 0 NONE NONE 0 0 0 0 NONE
            again 0 = NOT
            told 0 * = 0 1 60 1 NONE 0 4 0 1 0 0 1 10 10
            go 1 = 1
            told 2 7 = 2
            again 1 = NOT
            go 57
            told 1 6 = 4
            again 1 = 3
            told 3 2 = 1
            told 3 3 = 0
            told 3 4 = NONE
            told 3 5 = 60
            go 1 = 1
            told 3 7 = 60
            go 1
            told 3 8 = 61
            told 2 8 = 61
            """);
        Script.run("9: booked again, CUT again, booked again", """
            wire 0 1 10
            span 0 0 2 2
            span 0 0 6 6
            book 0 1 10 0 0 = 0
            go 3
            again 0 = 1
            told 1 2 = 8
            again 1 = NOT
            go 4
            told 1 6 = 4
            again 0 = NOT
            again 1 = 2
            told 2 2 = 5
            again 2 = NOT
            go 10
            told 2 6 = 3
            """);
        Script.run("9: THE WAIT of one booked again is told like any other", """
            wire 0 1 10
            span 0 0 2 2
            book 0 1 10 0 0 = 0
            go 3
            book 1 0 10 0 0 = 1
            told 1 10 = 0
            again 0 = 2
            told 2 10 = 3
            """);
        Script.run("9: later than it was CUT", """
            wire 0 1 10
            span 0 0 2 2
            book 0 1 10 0 0 = 0
            go 100
            again 0 = 1
            told 1 5 = 100
            told 1 2 = 8
            """);
    }

    private static void againRefused() {
        Script.run("9: CALLS in each state", Rooms.ORDINARY + """
            again -1 = UNKNOWN
            again 7 = UNKNOWN
            again 40 = UNKNOWN
            again MIN = UNKNOWN
            again MAX = UNKNOWN
            again 257 = UNKNOWN
            again 0 = NOT
            again 2 = NOT
            again 3 = NOT
            again 4 = NOT
            again 5 = NOT
            again 6 = NOT
            again 1 = 7
            again 1 = NOT
            told 7 * = 3 4 7 0 NONE 4 0 NONE NONE 0 0 0 0 NONE
            """);
        Script.run("9: no CALLS", """
            again 0 = UNKNOWN
            again -1 = UNKNOWN
            """);
        Script.run("9: what was not CUT yet may be booked again when it is", """
            wire 0 1 10
            span 0 0 2 2
            book 0 1 10 0 0 = 0
            again 0 = NOT
            go 1
            again 0 = NOT
            go 2
            again 0 = 1
            """);
        Script.run("9: full", Rooms.FULL + """
            again 1 = FULL
            again 0 = NOT
            again 2 = NOT
            again 4 = NOT
            again 39 = NOT
            again 40 = UNKNOWN
            again -1 = UNKNOWN
            """);
        Script.run("9: full, and booked again already", Rooms.ORDINARY + """
            again 1 = 7
            32x book 0 1 5 0 0 = 8+
            again 1 = NOT
            book 0 1 5 0 0 = FULL
            """);
        Script.run("9: the fortieth CALL", Rooms.ORDINARY + """
            32x book 0 1 5 0 0 = 7+
            again 1 = 39
            told 39 2 = 7
            book 0 1 5 0 0 = FULL
            """);
        Script.run("9: NOW is 479, NOW is 480", """
            wire 0 1 10
            wire 0 1 10
            span 0 0 478 479
            span 1 0 479 479
            book 0 1 60 2 470 = 0
            book 0 1 60 2 470 = 1
            go 200
            go 200
            go 79
            told 0 8 = 478
            again 0 = 2
            told 2 2 = 52
            go 1
            told 1 8 = 479
            again 1 = NOT
            again 0 = NOT
            again 3 = UNKNOWN
            """);
        Script.run("9: NOW is 480 and full", Rooms.FULL_AND_OVER + """
            again 1 = NOT
            again 40 = UNKNOWN
            """);
    }

    private static void told() {
        String refusals = """
            told -1 0 = UNKNOWN
            told 40 0 = UNKNOWN
            told MIN 0 = UNKNOWN
            told MAX 0 = UNKNOWN
            told 256 0 = UNKNOWN
            told -1 -1 = UNKNOWN
            told 40 14 = UNKNOWN
            """;
        String outside = """
            told 0 -1 = OUTSIDE
            told 0 14 = OUTSIDE
            told 0 MIN = OUTSIDE
            told 0 MAX = OUTSIDE
            told 0 256 = OUTSIDE
            """;
        Script.run("10: refused, no CALLS", refusals + "told 0 0 = UNKNOWN\ntold 0 14 = UNKNOWN");
        Script.run("10: refused; CALLS in each state", Rooms.ORDINARY + refusals + outside + """
            told 7 0 = UNKNOWN
            told 7 14 = UNKNOWN
            told 0 * = 0 1 1 0 NONE 0 3 0 1 0 0 1 10 10
            told 1 * = 3 4 9 0 NONE 0 4 0 2 0 0 1 5 10
            told 2 * = 1 2 60 0 NONE 0 2 0 NONE 0 0 1 0 10
            told 3 * = 5 6 60 0 NONE 0 2 0 NONE 0 0 1 0 10
            told 4 * = 5 6 5 0 NONE 0 0 NONE NONE 4 3 0 0 NONE
            told 5 * = 6 5 5 0 NONE 0 5 NONE 2 2 6 0 0 NONE
            told 6 * = 0 2 5 0 NONE 2 1 NONE NONE 2 0 1 0 20
            """);
        Script.run("10: refused, full", Rooms.FULL_AND_OVER + refusals + outside + "told 39 13 = 10");
    }

    private static void waitTold() {
        Script.run("10: no WIRES: divided by 1; sixteen: by 17; 39 that wait and the most told", """
            order 0 'told 99;'
            book 0 1 1 0 0 = 0
            book 0 1 1 0 0 = 1
            told 0 10 = 0
            told 1 10 = 99
            16x wire 1 0 10
            37x book 1 0 1 0 0 = 2+
            book 0 1 1 0 0 = 39
            told 2 10 = 11
            told 38 10 = 221
            told 39 10 = 227
            """);
        Script.run("10: told 0", """
            order 0 'told 0;'
            9x book 0 1 1 0 0
            told 8 10 = 0
            """);
        Script.run("10: WAITING and HELD ones count, others do not; either way; FIXED ones before their MINUTE", Rooms.ORDINARY + """
            book 1 2 5 0 0 = 7
            told 7 10 = 0
            book 2 0 5 0 0 = 8
            told 8 10 = 6
            book 0 1 5 0 0 = 9
            told 9 10 = 0
            book 3 4 5 0 0 = 10
            told 10 10 = 0
            book 3 4 5 2 400 = 11
            told 11 10 = 3
            book 4 3 5 0 0 = 12
            told 12 10 = 6
            book 5 6 5 0 0 = 13
            told 13 10 = 3
            """);
        Script.run("10: OFFERS join nothing", """
            4x offer 0 1 10 0
            2x book 0 1 1 0 0
            told 1 10 = 6
            wire 0 1 10
            book 0 1 1 0 0
            told 2 10 = 6
            book 0 1 1 0 0
            told 3 10 = 9
            """);
        Script.run("10: OFFERS join nothing beside sixteen WIRES either", """
            16x wire 0 1 10
            4x offer 0 1 10 0
            order 0 'told 99;'
            5x book 0 1 1 0 0
            told 4 10 = 23
            """);
        Script.run("10: told by the ORDERS of NOW", """
            order 10 'told 50;'
            go 9
            2x book 0 1 1 0 0
            told 1 10 = 6
            go 1
            book 0 1 1 0 0
            told 2 10 = 100
            """);
    }

    private static void way() {
        String refusals = """
            way -1 0 = UNKNOWN
            way 40 0 = UNKNOWN
            way MIN 0 = UNKNOWN
            way MAX 0 = UNKNOWN
            way 256 0 = UNKNOWN
            way 40 -1 = UNKNOWN
            """;
        Script.run("11: no CALLS", refusals + "way 0 0 = UNKNOWN");
        Script.run("11: CALLS in each state", Rooms.ORDINARY + refusals + """
            way 7 0 = UNKNOWN
            way 0 * = 0 NONE NONE
            way 1 * = 2 NONE NONE
            way 2 * = 1 NONE NONE
            way 4 * = NONE NONE
            way 5 * = NONE NONE
            way 6 * = 0 1 NONE NONE
            way 6 -1 = NONE
            way 6 2 = NONE
            way 6 3 = NONE
            way 6 MIN = NONE
            way 6 MAX = NONE
            way 6 256 = NONE
            way 0 -1 = NONE
            way 0 1 = NONE
            way 0 MAX = NONE
            """);
        Script.run("11: three WIRES, as they follow from the first TOWN", """
            wire 0 1 300
            wire 1 2 300
            wire 2 3 300
            order 0 'ways 3;'
            book 3 0 1 0 0
            go 1 = 1
            way 0 * = 2 1 0 NONE
            told 0 11 = 3
            told 0 13 = 900
            way 0 -1 = NONE
            go 1
            way 0 * = 2 1 0 NONE
            told 0 * = 3 0 1 0 NONE 0 3 0 1 0 0 3 10 900
            """);
    }

    private static void ways() {
        Script.run("12: by how many WIRES first, then by MILES, then by WIRES", """
            wire 0 1 1
            wire 1 2 1
            wire 0 2 300
            wire 0 1 1
            wire 1 2 1
            wire 1 0 2
            ways 0 2 2 0 * = 2 NONE NONE
            ways 0 2 2 0 NONE = 300
            ways 0 2 2 1 * = 0 1 NONE
            ways 0 2 2 1 NONE = 2
            ways 0 2 2 2 * = 0 4 NONE
            ways 0 2 2 3 * = 3 1 NONE
            ways 0 2 2 4 * = 3 4 NONE
            ways 0 2 2 5 * = 5 1 NONE
            ways 0 2 2 5 NONE = 3
            ways 0 2 2 6 * = 5 4 NONE
            ways 0 2 2 7 * = NONE NONE
            ways 0 2 2 7 NONE = NONE
            ways 0 2 1 0 0 = 2
            ways 0 2 1 1 0 = NONE
            ways 2 0 3 1 * = 1 0 NONE
            ways 2 0 3 2 * = 1 3 NONE
            ways 2 0 3 3 * = 4 0 NONE
            """);
        Script.run("12: no TOWN twice", """
            wire 0 1 1
            wire 0 1 1
            wire 1 2 1
            wire 2 3 1
            ways 0 1 3 0 0 = 0
            ways 0 1 3 1 0 = 1
            ways 0 1 3 2 0 = NONE
            ways 0 2 3 0 * = 0 2 NONE
            ways 0 2 3 1 * = 1 2 NONE
            ways 0 2 3 2 0 = NONE
            ways 0 3 3 0 * = 0 2 3 NONE
            ways 0 3 3 1 * = 1 2 3 NONE
            ways 0 3 3 2 0 = NONE
            ways 0 3 2 0 0 = NONE
            ways 3 0 3 1 * = 3 2 1 NONE
            """);
        Script.run("12: not by the first TOWN again, nor by the last one", """
            wire 0 1 1
            wire 0 1 1
            wire 0 2 9
            wire 2 3 1
            wire 2 3 1
            ways 0 2 3 0 * = 2 NONE
            ways 0 2 3 1 0 = NONE
            ways 2 0 3 1 0 = NONE
            ways 1 3 3 0 * = 0 2 3 NONE
            ways 1 3 3 3 * = 1 2 4 NONE
            ways 1 3 3 4 0 = NONE
            """);
        Script.run("12: at most three WIRES", """
            wire 0 1 1
            wire 1 2 1
            wire 2 3 1
            wire 3 4 1
            ways 0 3 3 0 NONE = 3
            ways 0 4 3 0 NONE = NONE
            order 0 'ways 1;'
            ways 0 3 3 0 NONE = 3
            span 1 0 0 479
            ways 0 3 3 0 NONE = 3
            offer 0 3 1 1
            ways 0 3 3 0 NONE = 3
            """);
        Script.run("12: behind the last WAY there is none, whatever else was asked before", """
            wire 0 1 10
            wire 2 3 10
            ways 0 1 1 0 0 = 0
            ways 2 3 1 0 0 = 1
            ways 1 0 1 0 0 = 0
            ways 0 1 1 1 0 = NONE
            ways 0 1 3 1 NONE = NONE
            ways 2 3 1 1 0 = NONE
            ways 1 0 1 1 0 = NONE
            ways 0 2 3 0 NONE = NONE
            """);
        Script.run("12: the most WAYS: five, five and six WIRES in a row", """
            5x wire 0 1 300
            5x wire 1 2 300
            6x wire 2 7 300
            ways 0 7 3 0 * = 0 5 10 NONE
            ways 0 7 3 1 * = 0 5 11 NONE
            ways 0 7 3 149 * = 4 9 15 NONE
            ways 0 7 3 149 NONE = 900
            ways 0 7 3 150 NONE = NONE
            ways 0 7 3 150 0 = NONE
            ways 7 0 3 149 * = 15 9 4 NONE
            ways 7 0 3 150 0 = NONE
            ways 0 2 2 24 * = 4 9 NONE
            ways 0 2 3 25 0 = NONE
            """);
    }

    /** Two lines between any two of five TOWNS, four of them OFFERS: each last WAY, held against RoomModel. */
    private static void manyWays() {
        TrunkRoom x = new TrunkRoom();
        RoomModel model = new RoomModel();
        int lines = 0;
        for (int a = 0; a < 5; a++) {
            for (int b = a + 1; b < 5; b++) {
                for (int k = 0; k < 2; k++) {
                    lines++;
                    int miles = 1 + lines * 7 % 5;
                    if (lines <= 16) {
                        x.wire(a, b, miles);
                        model.wire(a, b, miles);
                    } else {
                        x.offer(a, b, miles, 0);
                    }
                }
            }
        }
        for (int a = 0; a < 5; a++) {
            for (int b = 0; b < 5; b++) {
                int last = a == b ? 0 : model.allWays(model.real.net, a, b, 3).size() - 1;
                for (int i = last; i <= last + 1; i++) {
                    for (int j = -1; j < 3; j++) {
                        int got = x.ways(a, b, 3, i, j);
                        int due = model.ways(a, b, 3, i, j);
                        if (got != due) {
                            Script.fails("12", "ways(" + a + ", " + b + ", 3, " + i + ", " + j + ") answered " + got
                                    + ", due is " + due);
                        }
                    }
                }
            }
        }
    }

    private static void waysRefused() {
        String refusals = """
            ways -1 0 1 0 0 = UNKNOWN
            ways 8 0 1 0 0 = UNKNOWN
            ways 0 -1 1 0 0 = UNKNOWN
            ways 0 8 1 0 0 = UNKNOWN
            ways MIN 0 1 0 0 = UNKNOWN
            ways 0 MAX 1 0 0 = UNKNOWN
            ways 256 1 1 0 0 = UNKNOWN
            ways 8 8 1 0 0 = UNKNOWN
            ways -1 -1 0 0 0 = UNKNOWN
            ways 0 8 4 0 0 = UNKNOWN
            ways 0 0 1 0 0 = OUTSIDE
            ways 7 7 3 0 0 = OUTSIDE
            ways 0 1 0 0 0 = OUTSIDE
            ways 0 1 4 0 0 = OUTSIDE
            ways 0 1 -1 0 0 = OUTSIDE
            ways 0 1 MIN 0 0 = OUTSIDE
            ways 0 1 MAX 0 0 = OUTSIDE
            ways 0 1 257 0 0 = OUTSIDE
            ways 3 3 4 0 0 = OUTSIDE
            """;
        Script.run("12: refused, new", refusals);
        Script.run("12: refused; there is none such", Rooms.ORDINARY + refusals + """
            ways 0 1 1 0 0 = 0
            ways 0 2 2 0 * = 0 1 NONE
            ways 0 2 2 0 -2 = NONE
            ways 0 2 2 0 MIN = NONE
            ways 0 2 2 0 MAX = NONE
            ways 0 2 2 0 256 = NONE
            ways 0 2 2 -1 0 = NONE
            ways 0 2 2 -1 -1 = NONE
            ways 0 2 2 1 0 = NONE
            ways 0 2 2 MIN 0 = NONE
            ways 0 2 2 MAX 0 = NONE
            ways 0 2 2 256 0 = NONE
            ways 0 2 2 65536 -1 = NONE
            ways 0 7 3 0 NONE = NONE
            """);
        Script.run("12: refused, full", Rooms.FULL_AND_OVER + refusals + "ways 7 0 1 11 0 = 15");
    }
}
