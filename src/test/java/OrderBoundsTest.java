import java.util.ArrayList;
import java.util.List;

/** Promises 15 to 18 (THE TEXT, ORDERS, FAULTS, what holds): every bound, both sides of it, and every refusal. */
public final class OrderBoundsTest {
    private static final String AT_FIRST = """
        force 0 * = 2 0 5 6 50 3 0 1 2 NONE NONE
        force 479 * = 2 0 5 6 50 3 0 1 2 NONE NONE
        force 0 21 = 10
        force 479 920 = 10
        force 0 1000 = 100
        """;

    private OrderBoundsTest() { }

    public static void main(String[] args) {
        feed();
        feedRefused();
        order();
        orderRefused();
        numbers();
        figures();
        blanks();
        words();
        ends();
        strikes();
        keys();
        clauses();
        sixtyClauses();
        lengths();
        fault();
        force();
        charges();
        nights();
        forceByMinutes();
        counting();
        everyByteChanged();
        Script.end();
    }

    private static void faulty(String text, int fault, int at) {
        Script.run("17: '" + text + "'", "order 0 '" + text + "' = " + (-10 - fault) + "\nfault = " + at
                + "\ncount 10 = 0\ncount 13 = 0\n" + AT_FIRST);
    }

    private static void sound(String text) {
        Script.run("16: '" + text + "'", "order 0 '" + text + "' = 0\nfault = NONE\ncount 10 = 1\ncount 13 = 0");
    }

    private static void sound(String text, int what, int value) {
        Script.run("16: '" + text + "'", "order 0 '" + text + "' = 0\nfault = NONE\nforce 0 " + what + " = " + value);
    }

    // ---- THE TEXT

    private static void feed() {
        // 'hold', '7', ';' with higher bytes around them that are not looked at
        Script.run("15: one byte, the lowest", """
            feed 1 0x7F6F6F6F6F6F6F68 = 1
            feed 1 -145 = 2
            feed 1 0x10000006C = 3
            feed 1 0xFF64 = 4
            feed 1 0x37 = 5
            feed 1 0x3B = 6
            order 0 = 0
            force 0 1 = 7
            """);
        Script.run("15: the highest of them first", """
            feed 2 0x41686F = 2
            feed 3 0x7A6C6437 = 5
            feed 1 0x3B = 6
            order 0 = 0
            force 0 1 = 7
            """);
        Script.run("15: eight bytes", """
            feed 8 0x686F6C642035393B = 8
            order 0 = 0
            force 0 1 = 59
            """);
        Script.run("15: seven bytes", """
            feed 7 0x7F686F6C6420353B = 7
            order 0 = 0
            force 0 1 = 5
            """);
        Script.run("15: bytes above 127 and 0 stand in THE TEXT as they are", """
            feed 8 LMIN = 8
            feed 8 -1 = 16
            feed 1 0 = 17
            count 13 = 17
            order 0 = -11
            fault = 0
            feed 2 0x20FF = 2
            order 0 = -11
            fault = 1
            feed 3 0x2020A0 = 3
            order 0 = -11
            fault = 2
            feed 3 0x202000 = 3
            order 0 = -11
            fault = 2
            feed 8 LMAX = 8
            order 0 = -11
            fault = 0
            feed 8 0x20202020202020E8 = 8
            order 0 = -11
            fault = 7
            """);
        // a byte that differs from a good one by its highest bit alone
        Script.run("15: no bit is lost", """
            feed 7 0x686F6C6420B53B = 7
            order 0 = -11
            fault = 5
            feed 7 0x686F6C6420353B = 7
            order 0 = 0
            """);
    }

    private static void feedRefused() {
        String outside = """
            feed 0 0x20 = OUTSIDE
            feed 9 0x20 = OUTSIDE
            feed -1 0x20 = OUTSIDE
            feed MIN 0x20 = OUTSIDE
            feed MAX 0x20 = OUTSIDE
            feed 257 0x20 = OUTSIDE
            feed 0 LMIN = OUTSIDE
            """;
        Script.run("15: refused, new", outside + "count 13 = 0\nfeed 1 0x20 = 1\nfeed 8 0 = 9");
        Script.run("15: refused", Rooms.ORDINARY + outside);
        Script.run("15: refused, full", Rooms.FULL + outside + """
            feed 1 0x20 = FULL
            feed 8 0x20 = FULL
            """);
        Script.run("15: 160 bytes, not 161", """
            19x feed 8 0x2020202020202020
            feed 1 0x20 = 153
            feed 8 0x20 = FULL
            feed 7 0x20202020202020 = 160
            feed 1 0x20 = FULL
            feed 9 0x20 = OUTSIDE
            order 0 = 0
            count 13 = 0
            20x feed 8 0x2020202020202020
            count 13 = 160
            feed 1 0x20 = FULL
            """);
        Script.run("15: at 159 one byte more, not two", """
            19x feed 8 0x2020202020202020
            feed 7 0x20202020202020 = 159
            feed 2 0x2020 = FULL
            feed 8 0x2020 = FULL
            count 13 = 159
            feed 1 0x20 = 160
            """);
        Script.run("15: NOW is 480", Rooms.OVER + "feed 1 0x20 = 4\norder 479 'hold 5;' = -11");
    }

    // ---- ORDERS

    private static void order() {
        Script.run("16: in force from its MINUTE on: 0, 1, 478, 479", """
            order 479 'hold 4;' = 0
            order 478 'hold 3;' = 1
            order 1 'hold 2;' = 2
            order 0 'hold 1;' = 3
            force 0 1 = 1
            force 1 1 = 2
            force 477 1 = 2
            force 478 1 = 3
            force 479 1 = 4
            """);
        Script.run("16: empty, and of blanks", """
            order 0 = 0
            fault = NONE
            order 5 ' ' = 1
            order 5 '        ' = 2
            count 10 = 3
            """ + AT_FIRST);
        Script.run("16: six, and none more", """
            6x order 0 'hold 5;' = 0+
            order 0 'hold 6;' = FULL
            count 10 = 6
            count 13 = 7
            force 0 1 = 5
            """);
        Script.run("16: what has a FAULT is no ORDER and has no number", """
            order 0 'hold 5;' = 0
            order 0 'hold 61;' = -12
            order 0 'hold' = -11
            order 0 'hold 6;' = 1
            force 0 1 = 6
            count 10 = 2
            """);
        Script.run("16: of what has a FAULT no clause holds", """
            order 0 'hold 5;told 7;next far;ways 3;grace 1;back 1;charge 1 to 900;night 0 to 479 by 1;!' = -11
            """ + AT_FIRST);
        Script.run("16: the sixth counts", """
            5x order 0 '' = 0+
            order 0 'hold 9;told 8;' = 5
            force 0 1 = 9
            force 0 3 = 8
            """);
        Script.run("16: an ORDER for a MINUTE that is done", Rooms.ORDINARY + """
            order 0 = -11
            order 3 'told 50;' = 1
            book 5 6 1 0 0
            told 7 10 = 25
            """);
        Script.run("16: NOW is 480", Rooms.OVER + """
            order 0 = -11
            order 479 'hold 7;' = 1
            force 479 1 = 7
            """);
    }

    private static void orderRefused() {
        String outside = """
            order -1 = OUTSIDE
            order 480 = OUTSIDE
            order MIN = OUTSIDE
            order MAX = OUTSIDE
            order 65536 = OUTSIDE
            """;
        Script.run("16: refused, new", outside + "fault = NONE\norder 0 = 0");
        Script.run("16: refused: THE TEXT stays", Rooms.ORDINARY + outside + "count 13 = 3\norder 0 = -11\nfault = 0");
        Script.run("16: refused, full", Rooms.FULL + outside + """
            order 0 = FULL
            order 479 = FULL
            count 13 = 160
            fault = NONE
            """);
        Script.run("16: refused, full, and THE TEXT would be one, or empty", """
            6x order 0 ''
            order 0 = FULL
            feed 8 0x686F6C642035393B = 8
            order 0 = FULL
            order 480 = OUTSIDE
            order -1 = OUTSIDE
            count 13 = 8
            fault = NONE
            """);
    }

    // ---- NUMBERS

    private static void numbers() {
        // ahead of the NUMBER, its bounds, behind it, where it is told (NONE: nowhere)
        bounds("ways ", 1, 3, ";", 0);
        bounds("hold ", 0, 60, ";", 1);
        bounds("grace ", 0, 60, ";", 2);
        bounds("told ", 0, 99, ";", 3);
        bounds("back ", 0, 100, ";", 4);
        bounds("charge ", 0, 999, " to 900;", 100);
        bounds("charge 3 to ", 1, 999, ";", -1);
        bounds("night ", 0, 479, " to 479 by 5;", -1);
        bounds("night 0 to ", 0, 479, " by 5;", -1);
        bounds("night 200 to ", 200, 479, " by 5;", -1);
        bounds("night 479 to ", 479, 479, " by 5;", -1);
        bounds("night 0 to 0 by ", 0, 100, ";", 1000);
        faulty("night 480 to 480 by 5;", 2, 6);
        faulty("night 5 to 4 by 101;", 2, 11);
        faulty("charge 1000 to 0;", 2, 7);
    }

    private static void bounds(String ahead, int least, int most, String behind, int what) {
        int at = ahead.length();
        for (int n : new int[] {least, least + 1, most - 1, most}) {
            if (n < least || n > most) {
                continue;
            }
            if (what >= 0) {
                sound(ahead + n + behind, what, n);
            } else {
                sound(ahead + n + behind);
            }
            sound(ahead + String.format("%04d", n) + behind);
        }
        if (least > 0) {
            faulty(ahead + (least - 1) + behind, 2, at);
        }
        faulty(ahead + (most + 1) + behind, 2, at);
        faulty(ahead + 9999 + behind, 2, at);
        faulty(ahead + String.format("%05d", most) + behind, 2, at);
        faulty(ahead + "10000" + behind, 2, at);
        // such as wrap around an int or a long to a good one
        faulty(ahead + (4294967296L + most) + behind, 2, at);
        faulty(ahead + "18446744073709551" + (616 + least) + behind, 2, at);
        // what stands in a NUMBER's stead
        faulty(ahead + behind.strip(), 1, at);
        faulty(ahead + "-1" + behind, 1, at);
        faulty(ahead + "+1" + behind, 1, at);
        faulty(ahead + "x" + behind, 1, at);
        faulty(ahead + "to" + behind, 1, at);
        faulty(ahead + most + " 1" + behind, 1, at + String.valueOf(most).length() + 1);
        faulty(ahead + most + ".0" + behind, 1, at + String.valueOf(most).length());
    }

    private static void figures() {
        sound("hold 0;", 1, 0);
        sound("hold 00;", 1, 0);
        sound("hold 0000;", 1, 0);
        sound("hold 0009;", 1, 9);
        faulty("hold 00000;", 2, 5);
        faulty("hold 00009;", 2, 5);
        faulty("strike 00000;", 2, 7);
        faulty("strike 10000;", 2, 7);
        faulty("hold 12345", 2, 5);
        faulty("hold 12345x", 2, 5);
        faulty("hold " + "1".repeat(155), 2, 5);
        faulty("hold " + "0".repeat(155), 2, 5);
        // '/' and ':' stand beside the figures
        faulty("hold /;", 1, 5);
        faulty("hold :;", 1, 5);
        faulty("hold 1/;", 1, 6);
        faulty("hold 1:;", 1, 6);
    }

    private static void blanks() {
        sound("hold5;", 1, 5);
        sound("   hold   5   ;   ", 1, 5);
        sound("next fixed;", 5, 1);
        sound("charge7to900;", 100, 7);
        sound("night0to9by3;", 1000, 3);
        sound(" night 0 to 9 by 3 ; ", 1000, 3);
        sound("next far,short;hold5;told6;", 5, 2);
        sound(" next  far  ,  short  ;  hold  5  ;", 5, 2);
        // words side by side need one, blanks may not stand within words or NUMBERS
        faulty("nextfixed;", 1, 0);
        faulty("hol d 5;", 1, 0);
        faulty("h old 5;", 1, 0);
        faulty("hold 5 5;", 1, 7);
        faulty("hold 1 0;", 1, 7);
        faulty("next f ar;", 1, 5);
        faulty("charge 1 t o 5;", 1, 9);
        faulty("charge 1to 5 to;", 1, 13);
        faulty("hold 5 ; told 6 7;", 1, 16);
        // other white signs are no blanks
        faulty("hold\t5;", 1, 4);
        faulty("\u00a0hold 5;", 1, 0);
        faulty("hold 5;\u0000", 1, 7);
        faulty("hold\u001f5;", 1, 4);
        faulty("hold!5;", 1, 4);
    }

    private static void words() {
        String[] clauses = {"next far", "ways 1", "hold 5", "grace 5", "told 5", "charge 5 to 5", "night 5 to 6 by 7",
            "back 5"};
        for (String clause : clauses) {
            sound(clause + ";");
            sound(clause + ";" + clause + ";");
            String word = clause.substring(0, clause.indexOf(' '));
            String rest = clause.substring(clause.indexOf(' '));
            faulty(word.substring(1) + rest + ";", 1, 0);
            faulty(word.substring(0, word.length() - 1) + rest + ";", 1, 0);
            faulty(word + "s" + rest + ";", 1, 0);
            faulty(word + "x" + rest + ";", 1, 0);
            faulty(word + word + rest + ";", 1, 0);
            faulty("x" + word + rest + ";", 1, 0);
            faulty(" " + word.toUpperCase() + rest + ";", 1, 1);
            faulty(word + rest, 1, word.length() + rest.length());
            faulty(word + rest + "!", 1, word.length() + rest.length());
            faulty(word + rest + ";;", 1, word.length() + rest.length() + 1);
            faulty(word + ";" + rest + ";", 1, word.length());
            faulty(word + rest + "; " + word, 1, word.length() * 2 + rest.length() + 2);
        }
        for (String word : new String[] {"to", "by", "fixed", "first", "booked", "short", "far", "a", "z", "strik",
            "strikes", "abcdefghijklmnopqrstuvwxyz"}) {
            faulty(word + " 5;", 1, 0);
            faulty("hold 5; " + word + " 5;", 1, 8);
            faulty("hold " + word + ";", 1, 5);
            faulty("hold 5 " + word + ";", 1, 7);
            faulty("hold 5" + word + ";", 1, 6);
        }
        // the words between NUMBERS
        faulty("charge 5 by 5;", 1, 9);
        faulty("charge 5 too 5;", 1, 9);
        faulty("charge 5 t 5;", 1, 9);
        faulty("charge 5 5;", 1, 9);
        faulty("charge 5;", 1, 8);
        faulty("charge 5, 5;", 1, 8);
        faulty("night 5 by 6 to 7;", 1, 8);
        faulty("night 5 to 6 to 7;", 1, 13);
        faulty("night 5 to 6;", 1, 12);
        faulty("night 5 to 6 byy 7;", 1, 13);
        // '`' and '{' stand beside the letters, '@' and '[' beside the capitals
        faulty("hold`5;", 1, 4);
        faulty("hold{5;", 1, 4);
        faulty("hold@5;", 1, 4);
        faulty("{", 1, 0);
        faulty("`", 1, 0);
        faulty(",", 1, 0);
        faulty(";", 1, 0);
        faulty(" ;", 1, 1);
        faulty("5;", 1, 0);
        faulty("12345;", 1, 0);
    }

    /** Wherever THE TEXT ends within a clause: 1 at its length, or at the first letter of a word cut off. */
    private static void ends() {
        String text = "next far, short;charge 12 to 34;night 1 to 34 by 56;";
        int[] wordAt = new int[text.length() + 1];
        for (int k = 0; k < text.length(); k++) {
            boolean letter = Character.isLetter(text.charAt(k));
            boolean before = k > 0 && Character.isLetter(text.charAt(k - 1));
            wordAt[k] = !letter ? -1 : before ? wordAt[k - 1] : k;
        }
        for (int n = 1; n <= text.length(); n++) {
            String cut = text.substring(0, n);
            boolean inWord = wordAt[n - 1] >= 0 && n < text.length() && wordAt[n] >= 0;
            if (cut.endsWith(";")) {
                sound(cut);
            } else {
                faulty(cut, 1, inWord ? wordAt[n - 1] : n);
            }
        }
        faulty("hold   ", 1, 7);
        faulty("hold 5   ", 1, 9);
        faulty("charge 5 to   ", 1, 14);
        faulty("next far,   ", 1, 12);
    }

    private static void strikes() {
        faulty("strike 0;", 3, 7);
        faulty("strike 5;", 3, 7);
        faulty("strike 6;", 3, 7);
        faulty("strike 9999;", 3, 7);
        faulty("strike   0000;", 3, 9);
        faulty("strike 0", 3, 7);
        faulty("strike 0!", 3, 7);
        faulty("strike;", 1, 6);
        faulty("strike x;", 1, 7);
        faulty("hold 5; strike 0;", 3, 15);
        Script.run("17: a strike of the one before, of itself, of the next", """
            order 0 'hold 5;' = 0
            order 0 'strike 1;' = -13
            fault = 7
            order 0 'strike 2;' = -13
            order 0 'told 7; strike 0;' = 1
            order 0 'strike 2;' = -13
            order 0 'strike 1;' = 2
            order 0 'strike 3;' = -13
            order 0 '' = 3
            order 0 '' = 4
            order 0 'strike 5;' = -13
            order 0 'strike 10000;' = -12
            order 0 'strike 4;strike 0003;strike 2;strike 1;strike 0;' = 5
            force 0 * = 2 0 5 6 50 3 0 1 2 NONE NONE
            """);
    }

    private static void keys() {
        String[] all = {"fixed", "first", "booked", "short", "far"};
        for (int k = 0; k < all.length; k++) {
            sound("next " + all[k] + ";", 6, k);
            faulty("next " + all[k] + "," + all[k] + ";", 4, 6 + all[k].length());
            faulty("next " + all[k] + "s;", 1, 5);
            faulty("next " + all[k].substring(1) + ";", 1, 5);
            faulty("next " + all[k] + "x," + all[k] + "x;", 1, 5);
        }
        Script.run("18: five keys", """
            order 0 'next far,short,booked,first,fixed;' = 0
            force 0 * = 2 0 5 6 50 5 4 3 2 1 0
            order 1 'next short;' = 1
            force 1 * = 2 0 5 6 50 1 3 NONE NONE NONE NONE
            force 0 * = 2 0 5 6 50 5 4 3 2 1 0
            order 2 'next fixed,far; next far,fixed;' = 2
            force 2 * = 2 0 5 6 50 2 4 0 NONE NONE NONE
            """);
        sound("next far;next far;");
        sound("grace 0;next far;", 6, 4);
        sound("grace 60;next far,short;", 7, 3);
        faulty("next fixed,first,booked,short,far,fixed;", 4, 34);
        faulty("next fixed,first,booked,short,far,far", 4, 34);
        faulty("next fixed,first,booked,short,far,", 1, 34);
        faulty("next fixed,first,booked,short,far,next", 1, 34);
        faulty("next far, short , far;", 4, 18);
        faulty("next far;next short,short;", 4, 20);
        faulty("next;", 1, 4);
        faulty("next ,far;", 1, 5);
        faulty("next far,,short;", 1, 9);
        faulty("next far,;", 1, 9);
        faulty("next far short;", 1, 9);
        faulty("next far 5;", 1, 9);
        faulty("next 5;", 1, 5);
        faulty("next 12345;", 1, 5);
    }

    private static void clauses() {
        sound("hold 1;".repeat(9) + "hold 9;", 1, 9);
        sound("hold 1;".repeat(9) + "hold 9;   ", 1, 9);
        faulty("hold 1;".repeat(11), 5, 70);
        faulty("hold 1;".repeat(10) + "  hold 1;", 5, 72);
        faulty("hold 1;".repeat(10) + "hold", 5, 70);
        faulty("hold 1;".repeat(10) + "hold 99999;", 5, 70);
        faulty("hold 1;".repeat(10) + "next far,far;", 5, 70);
        faulty("hold 1;".repeat(10) + "strike 0;", 5, 70);
        // of two at one byte the least
        faulty("hold 1;".repeat(10) + "holds 1;", 1, 70);
        faulty("hold 1;".repeat(10) + "far;", 1, 70);
        faulty("hold 1;".repeat(10) + ";", 1, 70);
        faulty("hold 1;".repeat(10) + "5;", 1, 70);
        faulty("hold 1;".repeat(10) + "99999;", 1, 70);
        // a FAULT that comes earlier is the one
        faulty("hold 61;" + "hold 1;".repeat(10), 2, 5);
        faulty("hold 1;".repeat(9) + "hold 1!" + "hold 1;", 1, 69);
    }

    /** As many clauses as there may be at all: the tenth of each ORDER counts. */
    private static void sixtyClauses() {
        String nine = "hold 1;".repeat(9);
        String five = "order 0 '" + nine + "told 1;' = 0\norder 0 '" + nine + "grace 2;' = 1\norder 0 '" + nine
                + "back 3;' = 2\norder 0 '" + nine + "ways 3;' = 3\norder 0 '" + nine + "charge 4 to 900;' = 4\n";
        Script.run("16: six ORDERS of ten clauses", five + "order 0 '" + nine + "night 0 to 479 by 6;' = 5\n" + """
            force 0 * = 3 1 2 1 3 3 0 1 2 NONE NONE
            force 0 120 = 4
            force 0 1000 = 6
            force 479 1000 = 6
            """);
        Script.run("16: six ORDERS of ten clauses, the last of them a strike", five + "order 0 '" + nine
                + "strike 0;' = 5\n" + """
            force 0 * = 3 1 2 6 3 3 0 1 2 NONE NONE
            force 0 120 = 4
            """);
    }

    private static void lengths() {
        String blanks = " ".repeat(153);
        sound(blanks + "hold 5;", 1, 5);
        sound("hold 5;" + blanks, 1, 5);
        sound("hold " + blanks + "5;", 1, 5);
        faulty(blanks + " hold 5", 1, 160);
        faulty(blanks + "hold 5!", 1, 159);
        faulty(blanks + "  hold ", 1, 160);
        faulty(blanks + "   hold", 1, 160);
        faulty(blanks + "    hol", 1, 157);
        faulty(blanks + "strike ", 1, 160);
        faulty(blanks + " strike", 1, 160);
        faulty(blanks + "  strik", 1, 155);
        faulty(blanks + "hold 61", 2, 158);
        faulty(blanks + "strike0", 3, 159);
        faulty("a".repeat(160), 1, 0);
        faulty("7".repeat(160), 1, 0);
        faulty(";".repeat(160), 1, 0);
        faulty("next " + " ".repeat(145) + "far,far;;;", 4, 154);
        faulty(" ".repeat(148) + "next far,far", 4, 157);
        String ten = "hold 1;".repeat(10);
        faulty(ten + " ".repeat(83) + "hold 1;", 5, 153);
    }

    private static void fault() {
        Script.run("17: the latest order() that was not refused otherwise", """
            fault = NONE
            order -1 = OUTSIDE
            fault = NONE
            order 0 'hold 61;' = -12
            fault = 5
            order 480 = OUTSIDE
            fault = 5
            order 0 = 0
            fault = NONE
            order 0 '!' = -11
            fault = 0
            feed 1 0x20
            fault = 0
            order 480 = OUTSIDE
            fault = 0
            order 0 ' !' = -11
            fault = 2
            5x order 0 '' = 1+
            fault = NONE
            feed 1 0x21
            order 0 = FULL
            fault = NONE
            """);
        Script.run("17: a FAULT stays told when there is no place for more", """
            6x order 0 ''
            order 0 'hold' = FULL
            fault = NONE
            count 13 = 4
            """);
        Script.run("17: of what had a FAULT nothing stays behind", """
            order 0 'hold 7;' = 0
            order 0 'told 8;strike 0;!' = -11
            order 0 'told 9;' = 1
            force 0 1 = 7
            force 0 3 = 9
            order 0 'told 8;charge 1 to 900;!' = -11
            order 0 'told 7;' = 2
            force 0 100 = 10
            order 0 'told 8;night 0 to 479 by 1;!' = -11
            order 0 'told 6;' = 3
            force 0 1000 = 100
            order 0 'told 8;next far;!' = -11
            order 0 'told 5;' = 4
            force 0 * = 2 7 5 5 50 3 0 1 2 NONE NONE
            """);
        Script.run("17: what stood in THE TEXT before does not matter", """
            order 0 'hold 60;hold 60;hold 60;' = 0
            order 0 'hold' = -11
            fault = 4
            order 0 'hold 5' = -11
            fault = 6
            order 0 'told 7;' = 1
            force 0 1 = 60
            force 0 3 = 7
            """);
    }

    // ---- what holds

    private static void force() {
        String outside = """
            force -1 0 = OUTSIDE
            force 480 0 = OUTSIDE
            force MIN 0 = OUTSIDE
            force MAX 0 = OUTSIDE
            force 65536 0 = OUTSIDE
            force 0 -1 = OUTSIDE
            force 0 11 = OUTSIDE
            force 0 19 = OUTSIDE
            force 0 20 = OUTSIDE
            force 0 921 = OUTSIDE
            force 0 999 = OUTSIDE
            force 0 1001 = OUTSIDE
            force 0 MIN = OUTSIDE
            force 0 MAX = OUTSIDE
            force 0 65536 = OUTSIDE
            force -1 -1 = OUTSIDE
            force 480 1001 = OUTSIDE
            """;
        Script.run("18: refused, new", outside + AT_FIRST);
        Script.run("18: refused", Rooms.ORDINARY + outside + "force 0 1 = 60\nforce 479 1 = 60");
        Script.run("18: refused, full", Rooms.FULL_AND_OVER + outside + """
            force 199 1 = 60
            force 200 1 = 3
            force 299 1 = 3
            force 300 1 = 6
            force 478 1 = 6
            force 479 1 = 7
            """);
        Script.run("18: of ways and so on the last rules, each for itself", """
            order 0 'ways 1; hold 1; grace 1; told 1; back 1; ways 3; hold 60;' = 0
            force 0 * = 3 60 1 1 1 3 0 1 2 NONE NONE
            order 0 'grace 60; told 99; back 100;' = 1
            force 0 * = 3 60 60 99 100 3 0 1 2 NONE NONE
            order 0 'ways 1; hold 0; grace 0; told 0; back 0;' = 2
            force 0 * = 1 0 0 0 0 3 0 1 2 NONE NONE
            """);
    }

    private static void charges() {
        Script.run("18: that many MILES or fewer; the fewest of several clauses, of like ones the last; none: 10", """
            order 0 'charge 4 to 900; charge 1 to 1; charge 2 to 100; charge 3 to 100; charge 9 to 200;' = 0
            force 0 21 = 1
            force 0 22 = 3
            force 0 120 = 3
            force 0 121 = 9
            force 0 220 = 9
            force 0 221 = 4
            force 0 920 = 4
            order 5 'charge 7 to 100; charge 8 to 201;' = 1
            force 4 120 = 3
            force 5 120 = 7
            force 5 220 = 9
            force 5 221 = 8
            force 5 222 = 4
            """);
        Script.run("18: of 899 and 999 MILES", """
            order 0 'charge 0 to 899;' = 0
            force 0 919 = 0
            force 0 920 = 10
            order 0 'charge 999 to 999;' = 1
            force 0 919 = 0
            force 0 920 = 999
            """);
        Script.run("18: of like ones the last, by MINUTES, then numbers", """
            order 20 'charge 1 to 50;' = 0
            order 10 'charge 2 to 50;' = 1
            order 10 'charge 3 to 50;' = 2
            force 9 70 = 10
            force 10 70 = 3
            force 19 70 = 3
            force 20 70 = 1
            """);
    }

    private static void nights() {
        Script.run("18: night from its first MINUTE to its last; the last clause that holds the MINUTE", """
            order 0 'night 10 to 20 by 50; night 15 to 15 by 0; night 20 to 30 by 70;' = 0
            force 9 1000 = 100
            force 10 1000 = 50
            force 14 1000 = 50
            force 15 1000 = 0
            force 16 1000 = 50
            force 19 1000 = 50
            force 20 1000 = 70
            force 30 1000 = 70
            force 31 1000 = 100
            """);
        Script.run("18: night of the first and of the last MINUTE, of all of them", """
            order 0 'night 0 to 0 by 1; night 479 to 479 by 2;' = 0
            force 0 1000 = 1
            force 1 1000 = 100
            force 478 1000 = 100
            force 479 1000 = 2
            order 1 'night 0 to 479 by 100;' = 1
            force 0 1000 = 1
            force 1 1000 = 100
            force 479 1000 = 100
            """);
        Script.run("18: night of a MINUTE that the ORDER is not in force in yet", """
            order 10 'night 0 to 479 by 5;' = 0
            force 9 1000 = 100
            force 10 1000 = 5
            """);
    }

    private static void forceByMinutes() {
        Script.run("18: by MINUTES, then numbers", """
            order 20 'hold 1;' = 0
            order 10 'hold 2;' = 1
            order 20 'hold 3;' = 2
            order 15 'hold 4;' = 3
            order 0 'hold 5;' = 4
            force 0 1 = 5
            force 9 1 = 5
            force 10 1 = 2
            force 14 1 = 2
            force 15 1 = 4
            force 19 1 = 4
            force 20 1 = 3
            force 479 1 = 3
            """);
        Script.run("18: what holds at first is told again after what holds later", """
            order 10 'next far,short; ways 3; hold 9; grace 9; told 9; back 9; charge 9 to 900;'
            force 10 * = 3 9 9 9 9 2 4 3 NONE NONE NONE
            force 10 100 = 9
            force 9 * = 2 0 5 6 50 3 0 1 2 NONE NONE
            force 9 100 = 10
            force 479 * = 3 9 9 9 9 2 4 3 NONE NONE NONE
            """);
        Script.run("18: asked in any order of MINUTES", """
            order 20 'hold 1;'
            order 10 'hold 2;'
            force 20 1 = 1
            force 9 1 = 0
            force 10 1 = 2
            force 20 1 = 1
            order 20 'hold 3;'
            force 20 1 = 3
            force 10 1 = 2
            """);
    }

    private static void counting() {
        Script.run("18: struck from the MINUTE of the strike on", """
            order 10 'hold 1; told 1;' = 0
            order 30 'strike 0;' = 1
            force 29 1 = 1
            force 30 1 = 0
            force 479 3 = 6
            """);
        Script.run("18: struck before it is in force", """
            order 30 'hold 1;' = 0
            order 10 'strike 0;' = 1
            force 29 1 = 0
            force 30 1 = 0
            """);
        Script.run("18: a strike that is struck does not count", """
            order 0 'hold 1;' = 0
            order 0 'strike 0; hold 2;' = 1
            force 0 1 = 2
            order 10 'strike 1;' = 2
            force 9 1 = 2
            force 10 1 = 1
            order 20 'strike 2;' = 3
            force 10 1 = 1
            force 20 1 = 2
            order 30 'strike 3;' = 4
            force 20 1 = 2
            force 30 1 = 1
            order 40 'strike 4;' = 5
            force 30 1 = 1
            force 40 1 = 2
            """);
        Script.run("18: a strike that is not in force yet strikes none", """
            order 0 'hold 1;' = 0
            order 50 'strike 0;' = 1
            order 10 'strike 1;' = 2
            force 49 1 = 1
            force 50 1 = 1
            """);
        Script.run("18: what stands with a strike holds, and one may strike several, or one twice", """
            order 0 'hold 1;' = 0
            order 0 'told 1;' = 1
            order 0 'back 1;' = 2
            order 5 'strike 0; strike 2; strike 0; grace 1;' = 3
            force 4 * = 2 1 5 1 1 3 0 1 2 NONE NONE
            force 5 * = 2 0 1 1 50 3 0 1 2 NONE NONE
            """);
        Script.run("18: a MINUTE is done by what counts in it", """
            wire 0 1 10
            order 0 'charge 1 to 900;' = 0
            order 2 'strike 0; charge 2 to 900;' = 1
            order 4 'strike 1;' = 2
            book 0 1 1 2 1
            book 0 1 1 2 2
            book 0 1 1 2 3
            book 0 1 1 2 4
            go 6
            told 0 12 = 1
            told 1 12 = 2
            told 2 12 = 2
            told 3 12 = 1
            """);
    }

    // ---- against the second reader

    /** Texts with one byte changed, put in or taken out anywhere, held against TextModel. */
    private static void everyByteChanged() {
        String[] texts = {"next fixed, first,booked ,short,far;ways 3;hold 60;strike 1;",
            "charge 999 to 1;night 12 to 479by 100; back 0;told 99;grace 1 ;", "hold 1;".repeat(10) + " told 1;"};
        String signs = " ;,09afkostyz`{/:A\u0000\u00ff";
        for (String text : texts) {
            for (int at = 0; at <= text.length(); at++) {
                String ahead = text.substring(0, at);
                String behind = text.substring(Math.min(at + 1, text.length()));
                againstModel(ahead + behind);
                againstModel(ahead);
                for (int k = 0; k < signs.length(); k++) {
                    againstModel(ahead + signs.charAt(k) + behind);
                    againstModel(ahead + signs.charAt(k) + text.substring(at));
                }
            }
        }
    }

    private static void againstModel(String text) {
        TrunkRoom x = new TrunkRoom();
        x.order(0);
        x.order(0);
        List<Integer> bytes = new ArrayList<>();
        for (int i = 0; i < text.length(); i++) {
            bytes.add((int) text.charAt(i));
            x.feed(1, text.charAt(i));
        }
        TextModel model = new TextModel(bytes, 2);
        int due = model.fault == 0 ? 2 : -10 - model.fault;
        int got = x.order(0);
        if (got != due || x.fault() != model.faultAt) {
            Script.fails("17: '" + text + "'", "answered " + got + " and " + x.fault() + ", due is " + due + " and "
                    + model.faultAt);
        }
    }
}
