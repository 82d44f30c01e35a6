import java.math.BigInteger;

/** The sentences on the text, the history, errors and the digest: 'Text', 'History', promises 23 to 28. */
public final class TextSentences {
    private static final String SMALLEST = "begin(2, 1, 1) = 16\n", LARGEST = "begin(16, 10, 3) = 16\n";
    private static final String NO_FAULT = "textFault() = NONE\n";

    private static void holds(String section, String sentence, String... run) {
        Sentences.holds(section, sentence, run);
    }

    private static String each(int first, int last, String calls) {
        return Sentences.each(first, last, calls);
    }

    private static String fault(String text, int due) {
        return "text \"" + text + "\"\ntextFault() = " + due + "\n";
    }

    /** Each text alone has no fault. */
    private static String right(String... texts) {
        StringBuilder run = new StringBuilder();
        for (String text : texts) run.append("text \"").append(text).append("\"\n").append(NO_FAULT);
        return run.toString();
    }

    private static String ones(int words) {
        return "1,".repeat(words - 1) + "1";
    }

    private static void hundredBytes() {
        String blanks = " ".repeat(97);
        holds("Text", "Words can be given by a text of at most 100 bytes with this grammar:",
            "text \"" + blanks + "\"\n", """
            type(32) = 98 ; type(32) = 99 ; type(49) = 100
            type(49) = FULL ; type(32) = FULL
            textFault() = NONE ; load() = 1 ; word(0) = 1
            clearText() = 100 ; type(55) = 1 ; textFault() = NONE ; load() = 1 ; word(0) = 7
            """);
        // The last byte counts like any other one.
        holds("Text", "a text of at most 100 bytes",
            fault(blanks + "  7", -1), fault(blanks + "  8", 99), fault(blanks + "  ,", 99), fault(blanks + "   ", 100),
            "new\n", fault(blanks + " 1,", 100), fault(blanks + "77,", 100), fault(blanks + " 17", -1),
            fault(blanks + "100", 97), "new\n", fault(blanks + "  ", 99), fault(blanks + " 7", -1));
    }

    private static void signs() {
        holds("Text", "where a digit is 0 to 7: words are told octal", """
            type(47) = 1 ; textFault() = 0 ; clearText() = 1
            type(48) = 1 ; textFault() = NONE ; load() = 1 ; word(0) = 0 ; clearText() = 1
            type(55) = 1 ; textFault() = NONE ; load() = 1 ; word(0) = 7 ; clearText() = 1
            type(56) = 1 ; textFault() = 0 ; clearText() = 1
            type(57) = 1 ; textFault() = 0 ; clearText() = 1
            """, fault("1/", 1), fault("18", 1), fault("1,8", 2), fault("1,/", 2), fault(" 8", 1), fault("1 8", 2),
            fault("a", 0), fault("-1", 0),
            right("0", "1", "2", "3", "4", "5", "6", "7", "70", "07", "77"), """
            text "10,20,76,77"
            load() = 4 ; word(0) = 8 ; word(1) = 16 ; word(2) = 62 ; word(3) = 63
            """);
        holds("Text", "list = word { \",\" word } word = digit { digit }",
            right("1", "1,2", "1,2,3", "12,34"),
            fault(",", 0), fault(",1", 0), fault("1,,1", 2), fault("1,1,,", 4), fault("1, ,1", 3),
            fault("1+1", 1), fault("1-1", 1), fault("1.1", 1), fault("1;1", 1));
        holds("Text", "Blanks (32) may stand anywhere except within words (a blank ends one).",
            right(" 1", "1 ", "   1", "1   ", "1 ,2", "1, 2", " 1 , 2 ", "   17   ,   27   ", " 1,2,3,4 "),
            fault("1 2", 2), fault("1  2", 3), fault(" 1 2", 3), fault("1, 2 3", 5), fault("0 0001", 2), fault("1 2 3", 2),
            fault("1 x", 2), fault("1 7 ,", 2), """
            text " 1 , 7 "
            load() = 2 ; word(0) = 1 ; word(1) = 7
            clearText() = 7
            type(31) = 1 ; textFault() = 0 ; clearText() = 1
            type(33) = 1 ; textFault() = 0 ; clearText() = 1
            type(49) = 1 ; type(31) = 2 ; textFault() = 1 ; clearText() = 2
            type(49) = 1 ; type(33) = 2 ; textFault() = 1 ; clearText() = 2
            type(49) = 1 ; type(9) = 2 ; textFault() = 1 ; clearText() = 2
            type(49) = 1 ; type(10) = 2 ; textFault() = 1 ; clearText() = 2
            type(49) = 1 ; type(0) = 2 ; textFault() = 1 ; clearText() = 2
            type(49) = 1 ; type(160) = 2 ; textFault() = 1 ; clearText() = 2
            type(49) = 1 ; type(255) = 2 ; textFault() = 1 ; clearText() = 2
            type(49) = 1 ; type(32) = 2 ; textFault() = NONE
            """);
    }

    private static void words() {
        holds("Text", "with 1 to 4 digits (017 is 15)", right("0", "00", "000", "0000", "7", "07", "007", "0007"),
            fault("00000", 0), fault("00007", 0), fault("000000", 0), """
            text "017"
            load() = 1 ; word(0) = 15
            text "1,0017,17"
            load() = 3 ; word(1) = 15 ; word(2) = 15
            """);
        holds("Text", "(for a word that has more than 4 digits",
            fault("00001", 0), fault(" 00001", 1), fault("1,00001", 2), fault("1, 00001 ", 3),
            fault("00001x", 0), fault("000018", 0), fault("00001,8", 0), fault("00001 1", 0), fault("0000001", 0),
            // four digits, and then a byte that is not allowed there
            fault("0001x", 4), fault("00018", 4), fault("0001 1", 5), fault("8,00001", 0), fault("1x00001", 1));
        StringBuilder highest = new StringBuilder();
        for (int bits = 1; bits <= 10; bits++) {
            String most = Integer.toOctalString((1 << bits) - 1), more = Integer.toOctalString(1 << bits);
            highest.append("begin(2, " + bits + ", 1) = " + (bits == 1 ? 16 : 2) + "\n")
                .append(right(most, "0".repeat(4 - most.length()) + most)).append("load() = 1 ; word(0) = " + ((1 << bits) - 1) + "\n")
                .append(fault(more, 0)).append("load() = BAD_STATE\n");
        }
        holds("Text", "or is above 2^B - 1", highest.toString());
        holds("Text", "its first digit, whatever follows)",
            right("77", "077", "0077"),
            fault("100", 0), fault("0100", 0), fault("777", 0), fault("7777", 0), fault("100x", 0), fault("1008", 0),
            fault("100 1", 0), fault("1,100", 2), fault("1,  100,8", 4), fault("77x", 2), fault("778", 2),
            fault("77,100,00000", 3),
            SMALLEST, right("1", "01", "001", "0001"),
            fault("2", 0), fault("2x", 0), fault("0002", 0), fault("10", 0), fault("1,2", 2), fault("1x2", 1));
        holds("Text", "or for which there is no address", SMALLEST,
            right("1", "1,1", "1,1  "),
            fault("1,1,1", 4), fault("1,1,1x", 4), fault("1,1, 1", 5), fault("1,1,0,8", 4), fault("1,1,2", 4),
            fault("1,1,00000", 4), fault("1,1 1", 4),
            // no word at all is not one word too many
            fault("1,1,8", 4), fault("1,1, x", 5), fault("1,1,", 4), fault("1,1, ", 5), fault("1,1,,", 4),
            "begin(3, 1, 1) = 2\n", right("1,1,1"), fault("1,1,1,1", 6),
            "begin(8, 6, 2) = 3\n", right(ones(16)), fault(ones(17), 32));
        holds("Text", "for which there is no address", LARGEST,
            right(ones(47), ones(48), ones(48) + "     "), fault(ones(49), 96),
            "new\n", LARGEST, fault(ones(50), 96), fault(ones(48) + " 1", 96), fault(ones(48) + ", 1", 97),
            fault(ones(48) + ",,,,,", 96));
        holds("Text", "or its length with all blanks, if it ends too early (also if it is empty).", """
            textFault() = 0 ; type(32) = 1 ; textFault() = 1 ; clearText() = 1 ; textFault() = 0
            """, fault("", 0), fault(" ", 1), fault("   ", 3), fault("1,", 2), fault("1, ", 3), fault("1,   ", 5), fault(" 1 , ", 5),
            fault("17,27,", 6),
            LARGEST, fault("1,".repeat(48), 96), fault("1,".repeat(48) + "    ", 100));
        holds("Text", "The fault of the text is the position, from 0, of the first byte that is not allowed at its place",
            fault("x", 0), fault("1x8,", 1), fault("1,x", 2), fault("1, 2 ,3 4,,", 8), fault("1,2,3,,00000", 6),
            fault("1,00000,,", 2), fault("8 00000", 0), fault("1 ,2;", 4));
        holds("Text", "The words are for the addresses from 0 on.", """
            weave(0, 63) = 0 ; weave(1, 63) = 0 ; weave(2, 63) = 0 ; weave(15, 63) = 0
            text "5"
            load() = 1 ; word(0) = 5 ; word(1) = 63 ; word(15) = 63
            text "1,2"
            load() = 2 ; word(0) = 1 ; word(1) = 2 ; word(2) = 63 ; word(15) = 63
            """);
    }

    private static void typing() {
        holds("Promise 24", "code: the byte, 0 to 255", """
            type(LOWEST) = BAD_VALUE ; type(-1) = BAD_VALUE ; type(256) = BAD_VALUE ; type(HIGHEST) = BAD_VALUE
            type(0) = 1 ; type(255) = 2 ; type(256) = BAD_VALUE ; clearText() = 2
            """);
        holds("Promise 24", "Returns the length of the text; BAD_VALUE if code is out of range; FULL if the text has 100 bytes.",
            each(1, 100, "type(48) = #"), """
            type(48) = FULL ; type(0) = FULL ; type(255) = FULL ; type(-1) = BAD_VALUE ; type(256) = BAD_VALUE
            clearText() = 100 ; type(48) = 1
            """);
        holds("Promise 25", "Returns the length that it had.", """
            clearText() = 0 ; type(49) = 1 ; clearText() = 1 ; clearText() = 0
            """, each(1, 99, "type(49) = #"), "clearText() = 99\n", each(1, 100, "type(49) = #"), """
            clearText() = 100 ; textFault() = 0 ; type(49) = 1 ; textFault() = NONE
            """);
        holds("Promise 26", "Returns its fault; NONE if it has none.", """
            textFault() = 0
            text "1777"
            textFault() = 0                       // too high for 6 bits
            begin(2, 10, 1) = 16 ; textFault() = NONE
            begin(2, 9, 1) = 2 ; textFault() = 0  // the rope as it is now
            undo() = 1 ; textFault() = NONE
            text "1,1,1"
            textFault() = 4 ; begin(3, 1, 1) = 2 ; textFault() = NONE
            begin(2, 1, 2) = 3 ; textFault() = NONE ; begin(2, 1, 1) = 4 ; textFault() = 4
            textFault() = 4                       // asking changes nothing
            """);
    }

    private static void loading() {
        holds("Promise 27", "Weaves the words of the text. The text stays. Recorded, as one call.", """
            weave(0, 9) = 0
            text "17,77, 1"
            load() = 3
            word(0) = 15 ; word(1) = 63 ; word(2) = 1 ; word(3) = 0 ; read(1) = 63 ; parity(0) = 1
            through(8, 0) = 1 ; through(11, 0) = 1 ; through(12, 0) = 0 ; through(14, 0) = 1   // 001111, parity 1
            textFault() = NONE ; load() = 3
            undo() = 2 ; word(0) = 15 ; undo() = 1
            word(0) = 9 ; word(1) = 0 ; word(2) = 0
            textFault() = NONE ; clearText() = 8
            """);
        holds("Promise 27", "Returns how many words there were; BAD_STATE if the text has a fault.", """
            load() = BAD_STATE                    // an empty text
            text "7"
            load() = 1
            text "7,"
            load() = BAD_STATE ; word(0) = 7
            text "1,100"
            load() = BAD_STATE ; word(0) = 7      // nothing of it is woven
            text "1,8"
            load() = BAD_STATE ; word(0) = 7 ; undo() = 0 ; undo() = BAD_STATE
            """,
            "text \"" + ones(16) + "\"\nload() = 16\n", each(0, 15, "word(#) = 1"),
            "text \"" + ones(17) + "\"\nload() = BAD_STATE\n");
        holds("Promise 27", "Returns how many words there were",
            LARGEST, "text \"" + ones(48) + "\"\nload() = 48\n", each(0, 47, "word(#) = 1 ; read(#) = 1"),
            "text \"" + ones(49) + "\"\nload() = BAD_STATE\n");
    }

    private static void history() {
        holds("History", "A history of at most 5 states is kept.", """
            undo() = BAD_STATE
            weave(0, 1) = 0 ; undo() = 0 ; word(0) = 0 ; undo() = BAD_STATE
            weave(0, 1) = 0 ; weave(0, 2) = 1 ; weave(0, 3) = 2 ; weave(0, 4) = 3
            undo() = 3 ; weave(0, 4) = 3 ; weave(0, 5) = 4
            undo() = 4 ; word(0) = 4 ; undo() = 3 ; word(0) = 3 ; undo() = 2 ; word(0) = 2 ; undo() = 1 ; word(0) = 1
            undo() = 0 ; word(0) = 0
            undo() = BAD_STATE ; word(0) = 0
            """);
        holds("History", "when one more is recorded, the oldest one is dropped.", """
            weave(0, 1) = 0 ; weave(0, 2) = 1 ; weave(0, 3) = 2 ; weave(0, 4) = 3 ; weave(0, 5) = 4
            weave(0, 6) = 5   // the state with the word 0 is dropped
            undo() = 4 ; word(0) = 5 ; undo() = 3 ; word(0) = 4 ; undo() = 2 ; word(0) = 3 ; undo() = 1 ; word(0) = 2
            undo() = 0 ; word(0) = 1
            undo() = BAD_STATE ; word(0) = 1
            """);
        // 8 recorded, 2 undone, 3 recorded: states are dropped, removed and added across the end of any row of five.
        holds("History", "undo() removes and restores the latest one.",
            each(1, 8, "weave(1, #) = 0 ; undo() = 0"), each(1, 4, "undo() = BAD_STATE"),
            "weave(0, 1) = 0\n", "weave(0, 2) = 1 ; weave(0, 3) = 2 ; weave(0, 4) = 3 ; weave(0, 5) = 4 ; weave(0, 6) = 5\n", """
            weave(0, 7) = 6 ; weave(0, 8) = 7
            undo() = 4 ; word(0) = 7 ; undo() = 3 ; word(0) = 6
            weave(0, 9) = 6 ; weave(0, 10) = 9 ; weave(0, 11) = 10
            undo() = 4 ; word(0) = 10 ; undo() = 3 ; word(0) = 9 ; undo() = 2 ; word(0) = 6 ; undo() = 1 ; word(0) = 5
            undo() = 0 ; word(0) = 4
            undo() = BAD_STATE ; word(0) = 4
            """);
        holds("History", "record the whole state (all but the text)", """
            weave(15, 33) = 0 ; setCode(7, 15) = 7 ; cross(21) = 1 ; spoil(21, 7) = 1 ; spoil(0, 0) = 1 ; patch(15, 1) = 1
            text "5,6"
            remember
            begin(16, 10, 3) = 16 ; begin(2, 1, 1) = 48
            text "1,1"
            load() = 2 ; cross(8) = 1 ; spoil(9, 1) = 1
            type(44) = 4 ; type(49) = 5
            undo() = 4 ; undo() = 3 ; undo() = 2 ; undo() = 1 ; undo() = 0
            unchanged
            word(15) = 33 ; code(7) = 15 ; count(5) = 1 ; count(6) = 2 ; patchOf(15) = 1
            clearText() = 5   // the text is as it was before undo()
            """);
        holds("History", "before each call that returns no error, even if it changes nothing;", """
            begin(8, 6, 2) = 16 ; undo() = 0
            setCode(0, 0) = 0 ; undo() = 0
            weave(0, 0) = 0 ; undo() = 0
            cross(8) = 1 ; cross(8) = 0 ; undo() = 1 ; undo() = 0
            economize() = 2 ; economize() = 0 ; undo() = 1 ; undo() = 0
            spoil(0, 0) = 1 ; spoil(0, 0) = 0 ; undo() = 1 ; undo() = 0
            patch(0, 0) = 1 ; patch(0, 0) = 1 ; unpatch(0) = 0 ; undo() = 2 ; undo() = 1 ; undo() = 0
            patchAll() = 0 ; undo() = 0
            text "0"
            load() = 1 ; undo() = 0
            undo() = BAD_STATE
            """);
        holds("History", "The methods that are said to be recorded", """
            count(8) = 48 ; code(0) = 0 ; word(0) = 0 ; through(0, 0) = 1 ; cost(0) = 4 ; picked(0) = 1 ; read(0) = 0
            readRaw(0) = 0 ; parity(0) = 1 ; wrong(0) = 0 ; explains(0) = 0 ; patchOf(0) = NONE
            type(49) = 1 ; textFault() = NONE ; clearText() = 1 ; remember
            unchanged
            undo() = BAD_STATE
            """);
    }

    private static void errors() {
        String calls = """
            begin(1, 1, 1) = BAD_VALUE ; begin(2, 11, 1) = BAD_VALUE ; begin(2, 1, 4) = BAD_VALUE
            count(9) = BAD_VALUE ; setCode(8, 9) = BAD_INDEX ; setCode(0, 16) = BAD_VALUE ; setCode(0, 1) = BAD_STATE
            code(8) = BAD_INDEX ; weave(16, 0) = BAD_INDEX ; weave(0, 64) = BAD_VALUE ; word(16) = BAD_INDEX
            cross(22) = BAD_INDEX ; cross(7) = BAD_STATE ; through(22, 0) = BAD_INDEX ; through(0, 8) = BAD_INDEX
            cost(22) = BAD_INDEX ; picked(16) = BAD_VALUE ; read(16) = BAD_INDEX ; readRaw(16) = BAD_INDEX
            parity(16) = BAD_INDEX ; wrong(4) = BAD_VALUE ; spoil(22, 0) = BAD_INDEX ; spoil(0, 8) = BAD_INDEX
            explains(-1) = BAD_VALUE ; patch(16, 0) = BAD_INDEX ; patch(0, 64) = BAD_VALUE
            unpatch(16) = BAD_INDEX ; unpatch(15) = BAD_STATE ; patchOf(16) = BAD_INDEX
            type(-1) = BAD_VALUE ; type(256) = BAD_VALUE ; load() = BAD_STATE
            """;
        holds("History", "A call that returns an error changes nothing.",
            "remember\n", calls, """
            unchanged
            undo() = BAD_STATE ; clearText() = 0
            patch(0, 1) = 1 ; patch(1, 1) = 2 ; patch(2, 1) = 3 ; patch(3, 1) = 4 ; weave(0, 5) = 0
            text "1,2,8"
            remember
            """, calls, """
            patch(4, 1) = FULL
            unchanged
            type(49) = 6 ; textFault() = 4
            undo() = 4 ; word(0) = 0 ; undo() = 3 ; patchOf(3) = NONE ; undo() = 2 ; undo() = 1 ; undo() = 0
            undo() = BAD_STATE
            """);
        holds("History", "The error codes are BAD_INDEX (-2): there is no such ring, wire or address; BAD_VALUE (-3): another"
            + " argument is out of its range; BAD_STATE (-4): the call is not possible, as told; FULL (-5): there is no room.", """
            code(8) = -2 ; cost(22) = -2 ; word(16) = -2
            picked(16) = -3 ; setCode(0, 16) = -3 ; weave(0, 64) = -3 ; begin(1, 1, 1) = -3 ; type(256) = -3
            setCode(0, 1) = -4 ; cross(0) = -4 ; unpatch(0) = -4 ; undo() = -4 ; load() = -4
            patchOf(0) = -1
            patch(0, 0) = 1 ; patch(1, 0) = 2 ; patch(2, 0) = 3 ; patch(3, 0) = 4 ; patch(4, 0) = -5
            """, each(1, 100, "type(49) = #"), "type(49) = -5");
        holds("History", "If several apply to a call, the first one in this order is returned;", """
            setCode(8, 16) = BAD_INDEX ; setCode(-1, -1) = BAD_INDEX ; setCode(8, 0) = BAD_INDEX
            weave(16, 64) = BAD_INDEX ; weave(-1, -1) = BAD_INDEX
            cross(-1) = BAD_INDEX ; unpatch(-1) = BAD_INDEX ; unpatch(16) = BAD_INDEX
            patch(0, 0) = 1 ; patch(1, 0) = 2 ; patch(2, 0) = 3 ; patch(3, 0) = 4
            patch(16, 64) = BAD_INDEX ; patch(16, 0) = BAD_INDEX ; patch(-1, -1) = BAD_INDEX
            patch(4, 64) = BAD_VALUE ; patch(4, -1) = BAD_VALUE ; patch(4, 0) = FULL
            """, each(1, 100, "type(0) = #"), "type(256) = BAD_VALUE ; type(-1) = BAD_VALUE ; type(255) = FULL");
        holds("History", "NONE is returned only if no error applies.", """
            patchOf(15) = NONE ; patchOf(16) = BAD_INDEX ; patchOf(-1) = BAD_INDEX
            spoil(8, 0) = 1 ; spoil(8, 1) = 1 ; explains(0) = NONE ; explains(-1) = BAD_VALUE
            """);
        holds("Promise 23", "Returns the number of states that are left in it; BAD_STATE if it is empty.", """
            undo() = BAD_STATE ; count(0) = 8
            cross(8) = 1 ; undo() = 0 ; undo() = BAD_STATE ; undo() = BAD_STATE ; count(5) = 0
            cross(8) = 1 ; cross(9) = 1 ; cross(10) = 1 ; cross(11) = 1 ; cross(12) = 1
            undo() = 4 ; undo() = 3 ; undo() = 2 ; undo() = 1 ; count(5) = 1 ; undo() = 0 ; count(5) = 0
            undo() = BAD_STATE
            """);
    }

    /** Without overflow first, then cut to a long. */
    private static String hashed(int... numbers) {
        BigInteger h = BigInteger.valueOf(17);
        for (int number : numbers) h = h.multiply(BigInteger.valueOf(31)).add(BigInteger.valueOf(number));
        return "digest() = " + h.longValue() + "\n";
    }

    private static void digests() {
        holds("Promise 28", "h becomes 31 * h + v (long arithmetic, with overflow)",
            SMALLEST, hashed(
                2, 1, 1, 2, 10, 0, 0, 0, 10,                             // counts
                0, 1,                                                    // codes
                0, 0, 1, -1, 0, 0, 1, -1,                                // the addresses
                1, 0, 0, 1, 1, 1, 0, 0, 1, 1, 0, 0, 1, 1, 0, 0,          // the inhibit wires
                0, 0, 1, 1),                                             // the sense wires
            "digest() = 2867909540945562336\n",
            "weave(1, 1) = 0 ; cross(8) = 1 ; spoil(9, 0) = 1 ; patch(0, 1) = 1\n", hashed(
                2, 1, 1, 2, 10, 1, 1, 1, 11,
                0, 1,
                0, 1, 1, 1, 1, 1, 1, -1,
                1, 0, 0, 1, 1, 1, 0, 0, 1, 1, 0, 0, 1, 1, 0, 0,
                1, 0, 0, 0),
            "digest() = 6359218095172180546\n",
            "setCode(0, 2) = 0 ; unpatch(0) = 0\n", hashed(
                2, 1, 1, 2, 10, 1, 1, 0, 11,
                2, 1,
                0, 0, 0, -1, 1, 1, 1, -1,
                1, 0, 0, 1, 0, 1, 1, 0, 1, 1, 0, 0, 1, 1, 0, 0,
                1, 0, 0, 0));
        holds("Promise 28", "count() of 0 to 8; the codes of all rings; for each address word(), read(), parity() and patchOf();"
            + " for each wire, for each ring, through().", """
            begin(3, 1, 2) = 16
            setCode(0, 15) = 0 ; weave(5, 1) = 0 ; weave(0, 1) = 0 ; cross(10) = 1 ; spoil(8, 1) = 1 ; patch(4, 1) = 1
            """, hashed(
                3, 1, 2, 6, 12, 1, 1, 1, 12 + 1 + 2 + (2 + 1) + 2,
                15, 1, 2,
                // 2 is read wrongly, 4 by its patch
                1, 1, 1, -1, 0, 0, 1, -1, 0, 1, 0, -1, 0, 0, 1, -1, 0, 1, 1, 1, 1, 1, 1, -1,
                0, 0, 1, 1, 1, 0, 0, 1, 0, 1, 0, 1, 0, 1, 1, 1, 0, 0, 0, 1, 1, 1, 0, 0,
                // the set 0: the bit, the parity; the set 1, its bit crossed
                1, 1, 0, 0, 1, 1, 1, 1, 0, 1, 1, 0));
        holds("Promise 28", "Returns a hash of the state.", """
            remember
            text "1"
            unchanged              // the text is no part of it
            weave(0, 1) = 0 ; undo() = 0
            unchanged              // nor is the history
            """);
    }

    public static void main(String[] args) {
        hundredBytes();
        signs();
        words();
        typing();
        loading();
        history();
        errors();
        digests();
        Sentences.finish();
    }
}
