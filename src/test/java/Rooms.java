/** Rooms that several tests start from, as lines for Script. */
final class Rooms {
    private Rooms() { }

    /**
     * NOW is 4; four WIRES, two spans, an ORDER, three bytes, a TICKET, an OFFER and a CALL in each state:
     * 0 ENDED, 1 CUT, 2 and 3 TALKING, 4 WAITING, 5 CANCELLED, 6 HELD.
     */
    static final String ORDINARY = """
        wire 0 1 10 = 0
        wire 1 2 10 = 1
        wire 3 4 10 = 2
        wire 5 6 10 = 3
        order 0 'hold 60;' = 0
        span 2 1 2 2 = 1
        span 3 0 300 301 = 2
        ticket 0 1 5 6 = 1
        offer 0 2 30 10 = 0
        need 4 2 = 0
        book 0 1 1 0 0 = 0
        book 3 4 9 0 0 = 1
        book 1 2 60 0 0 = 2
        book 5 6 60 0 0 = 3
        book 5 6 5 0 0 = 4
        book 6 5 5 0 0 = 5
        go 2 = 4
        book 0 2 5 0 0 = 6
        cancel 5 = 1
        go 2 = 0
        feed 3 0x786F79 = 3
        """;

    /** The same with as much of everything as there may be; NOW is 4 still. */
    static final String FULL = ORDINARY + """
        12x wire 0 7 10 = 4+
        28x span 15 2 400 479 = 3+
        33x book 3 4 9 0 0 = 7+
        order 0 '' = -11
        order 200 'hold 3;' = 1
        order 300 'hold 4;' = 2
        order 300 'hold 5;' = 3
        order 300 'hold 6;' = 4
        order 479 'hold 7;' = 5
        19x feed 8 0x2020202020202020
        feed 8 0x2020202020202021 = 160
        39x ticket 1 2 5 7 = 2+
        3x offer 0 1 300 1 = 1+
        """;

    /** NOW is 480, and little else is there. */
    static final String OVER = ORDINARY + """
        go 200
        go 200
        go 76
        count 0 = 480
        """;

    /** NOW is 480, and as much of everything as there may be. */
    static final String FULL_AND_OVER = FULL + """
        go 200
        go 200
        go 76
        count 0 = 480
        """;
}
