/** The sentences on the rope, its wires and their costs: 'Rope', 'Weaving costs', promises 1 to 11 and 17. */
public final class RopeSentences {
    private static final String SMALLEST = "begin(2, 1, 1) = 16\n", LARGEST = "begin(16, 10, 3) = 16\n";

    private static void holds(String section, String sentence, String... run) {
        Sentences.holds(section, sentence, run);
    }

    private static String each(int first, int last, String calls) {
        return Sentences.each(first, last, calls);
    }

    private static void sizes() {
        holds("Rope", "A rope has R rings, 2 to 16, numbered from 0", """
            begin(1, 6, 2) = BAD_VALUE ; count(0) = 8
            begin(2, 6, 2) = 16 ; count(0) = 2
            code(-1) = BAD_INDEX ; code(0) = 0 ; code(1) = 1 ; code(2) = BAD_INDEX
            begin(3, 6, 2) = 4 ; count(0) = 3
            code(2) = 2 ; code(3) = BAD_INDEX
            begin(15, 6, 2) = 6 ; count(0) = 15
            code(14) = 14 ; code(15) = BAD_INDEX
            begin(16, 6, 2) = 30 ; count(0) = 16
            code(15) = 15 ; code(16) = BAD_INDEX
            begin(17, 6, 2) = BAD_VALUE ; count(0) = 16
            """);
        holds("Rope", "words of B bits, 1 to 10 (bit 0 is the lowest one)", """
            begin(8, 0, 2) = BAD_VALUE ; count(1) = 6
            begin(8, 1, 2) = 16 ; count(1) = 1
            weave(0, 1) = 0 ; weave(0, 2) = BAD_VALUE
            begin(8, 2, 2) = 16 ; count(1) = 2
            weave(0, 3) = 0 ; weave(0, 4) = BAD_VALUE
            begin(8, 9, 2) = 16 ; count(1) = 9
            weave(0, 511) = 0 ; weave(0, 512) = BAD_VALUE
            begin(8, 10, 2) = 16 ; count(1) = 10
            weave(0, 1023) = 0 ; weave(0, 1024) = BAD_VALUE
            weave(0, 1) = 1023   // the bit 0 is on the first sense wire, the bit 9 on the tenth
            through(8, 0) = 1 ; through(17, 0) = 0
            weave(0, 512) = 1
            through(8, 0) = 0 ; through(17, 0) = 1
            begin(8, 11, 2) = BAD_VALUE ; count(1) = 10
            """);
        holds("Rope", "S sets, 1 to 3 (8, 6 and 2 at first)", """
            count(0) = 8 ; count(1) = 6 ; count(2) = 2
            begin(8, 6, 0) = BAD_VALUE ; count(2) = 2
            begin(8, 6, 1) = 16 ; count(2) = 1 ; count(3) = 8
            begin(8, 6, 2) = 8 ; count(2) = 2 ; count(3) = 16
            begin(8, 6, 3) = 16 ; count(2) = 3 ; count(3) = 24
            begin(8, 6, 4) = BAD_VALUE ; count(2) = 3
            """);
        holds("Rope", "It has R * S addresses: the address S * ring + set.", """
            begin(3, 2, 3) = 16 ; count(3) = 9
            word(-1) = BAD_INDEX ; word(0) = 0 ; word(8) = 0 ; word(9) = BAD_INDEX
            weave(0, 1) = 0   // ring 0, set 0
            weave(2, 1) = 0   // ring 0, set 2
            weave(3, 1) = 0   // ring 1, set 0
            weave(8, 1) = 0   // ring 2, set 2
            // the wires of the bit 0: 8 in set 0, 11 in set 1, 14 in set 2
            through(8, 0) = 1 ; through(8, 1) = 1 ; through(8, 2) = 0
            through(11, 0) = 0 ; through(11, 1) = 0 ; through(11, 2) = 0
            through(14, 0) = 1 ; through(14, 1) = 0 ; through(14, 2) = 1
            read(0) = 1 ; read(1) = 0 ; read(2) = 1 ; read(3) = 1 ; read(7) = 0 ; read(8) = 1
            """);
    }

    private static void codes() {
        holds("Rope", "Each ring has a code, 0 to 15, all of them different (ring r has the code r at first).",
            "begin(16, 1, 1) = 16\n", each(0, 15, "code(#) = #"), """
            setCode(0, -1) = BAD_VALUE ; setCode(0, 16) = BAD_VALUE
            // all codes are taken, so each ring can have its own one alone
            setCode(0, 0) = 0 ; setCode(0, 15) = BAD_STATE ; setCode(15, 0) = BAD_STATE ; setCode(15, 15) = 15
            begin(15, 1, 1) = 16
            setCode(14, 15) = 14 ; setCode(0, 14) = 0 ; setCode(14, 0) = 15
            code(0) = 14 ; code(1) = 1 ; code(14) = 0
            """);
        holds("Rope", "There are 8 inhibit wires: the wire 2 * b + v is for the code bit b, 0 to 3, and the value v, 0 or 1;"
            + " rightly woven, it goes through the rings whose code has the value v at the bit b.", """
            setCode(7, 15) = 7
            setCode(5, 9) = 5
            """, each(0, 3, "cross(#) = BAD_STATE"), """
            cross(7) = BAD_STATE ; cross(8) = 1
            // the code 0
            through(0, 0) = 1 ; through(2, 0) = 1 ; through(4, 0) = 1 ; through(6, 0) = 1
            through(1, 0) = 0 ; through(3, 0) = 0 ; through(5, 0) = 0 ; through(7, 0) = 0
            // the code 15
            through(0, 7) = 0 ; through(2, 7) = 0 ; through(4, 7) = 0 ; through(6, 7) = 0
            through(1, 7) = 1 ; through(3, 7) = 1 ; through(5, 7) = 1 ; through(7, 7) = 1
            // the code 6, the bits 1 and 2
            through(0, 6) = 1 ; through(2, 6) = 0 ; through(4, 6) = 0 ; through(6, 6) = 1
            through(1, 6) = 0 ; through(3, 6) = 1 ; through(5, 6) = 1 ; through(7, 6) = 0
            // the code 9, the bits 0 and 3
            through(0, 5) = 0 ; through(2, 5) = 1 ; through(4, 5) = 1 ; through(6, 5) = 0
            through(1, 5) = 1 ; through(3, 5) = 0 ; through(5, 5) = 0 ; through(7, 5) = 1
            """);
    }

    private static void senseWires() {
        holds("Rope", "There are S * (B + 1) sense wires", """
            count(4) = 22                          // 8 + 2 * 7
            cross(7) = BAD_STATE ; cross(8) = 1 ; cross(21) = 1 ; cross(22) = BAD_INDEX
            begin(2, 1, 1) = 16 ; count(4) = 10    // 8 + 1 * 2
            cross(7) = BAD_STATE ; cross(8) = 1 ; cross(9) = 1 ; cross(10) = BAD_INDEX
            begin(16, 10, 3) = 2 ; count(4) = 41   // 8 + 3 * 11
            cross(7) = BAD_STATE ; cross(8) = 1 ; cross(40) = 1 ; cross(41) = BAD_INDEX
            """);
        holds("Rope", "the wire set * (B + 1) + b is for the bit b of the words of a set, b = B for their parity.", """
            begin(2, 10, 3) = 16
            // the sets have the sense wires 8 to 18, 19 to 29 and 30 to 40; the address 5 is ring 1, set 2
            weave(5, 513) = 0
            through(29, 1) = 1 ; through(30, 1) = 1 ; through(31, 1) = 0
            through(38, 1) = 0 ; through(39, 1) = 1 ; through(40, 1) = 1
            weave(5, 512) = 513
            through(30, 1) = 0 ; through(39, 1) = 1 ; through(40, 1) = 0
            through(30, 0) = 0 ; through(39, 0) = 0 ; through(40, 0) = 1
            weave(0, 513) = 0 // ring 0, set 0
            through(8, 0) = 1 ; through(9, 0) = 0 ; through(17, 0) = 1 ; through(18, 0) = 1 ; through(19, 0) = 0
            weave(1, 512) = 0 // ring 0, set 1
            through(18, 0) = 1 ; through(19, 0) = 0 ; through(28, 0) = 1 ; through(29, 0) = 0 ; through(30, 0) = 0
            """);
        holds("Rope", "The word that is to be at an address, 0 at first, has B bits;",
            LARGEST, each(0, 47, "word(#) = 0"), """
            word(48) = BAD_INDEX
            weave(47, 1024) = BAD_VALUE ; weave(47, 1023) = 0 ; word(47) = 1023 ; word(46) = 0
            """);
        holds("Rope", "its parity bit is such that the number of all B + 1 ones is odd.", """
            begin(8, 3, 1) = 16
            """, each(0, 7, "weave(#, #) = 0"), """
            through(11, 0) = 1 ; through(11, 1) = 0 ; through(11, 2) = 0 ; through(11, 3) = 1
            through(11, 4) = 0 ; through(11, 5) = 1 ; through(11, 6) = 1 ; through(11, 7) = 0
            begin(2, 10, 1) = 8
            weave(0, 1023) = 0 ; weave(1, 1022) = 0   // ten ones, and nine
            through(18, 0) = 1 ; through(18, 1) = 0
            begin(2, 1, 1) = 2
            weave(1, 1) = 0
            through(9, 0) = 1 ; through(9, 1) = 0
            """);
        holds("Rope", "A sense wire is straight (at first) or crossed.",
            LARGEST, "count(5) = 0\n", each(8, 40, "cross(#) = 1"), "count(5) = 33\n",
            each(8, 40, "cross(#) = 0"), "count(5) = 0");
        holds("Rope", "Rightly woven, it goes through a ring if its bit of the word of this ring and set is 1;"
            + " if it is crossed, if its bit is 0.", SMALLEST, """
            weave(1, 1) = 0
            through(8, 0) = 0 ; through(8, 1) = 1 ; through(9, 0) = 1 ; through(9, 1) = 0
            cross(8) = 1 ; cross(9) = 1
            through(8, 0) = 1 ; through(8, 1) = 0 ; through(9, 0) = 0 ; through(9, 1) = 1
            weave(0, 1) = 0 ; weave(1, 0) = 1   // a crossed wire is woven for new words, too
            through(8, 0) = 0 ; through(8, 1) = 1 ; through(9, 0) = 1 ; through(9, 1) = 0
            cross(8) = 0 ; cross(9) = 0
            through(8, 0) = 1 ; through(8, 1) = 0 ; through(9, 0) = 0 ; through(9, 1) = 1
            """);
        holds("Rope", "A wire can be woven wrongly at a ring: then it goes through it if it ought to go round it,"
            + " and the other way round.", SMALLEST, """
            weave(1, 1) = 0
            through(0, 0) = 1 ; spoil(0, 0) = 1 ; through(0, 0) = 0
            through(1, 0) = 0 ; spoil(1, 0) = 1 ; through(1, 0) = 1
            through(8, 0) = 0 ; spoil(8, 0) = 1 ; through(8, 0) = 1
            through(8, 1) = 1 ; spoil(8, 1) = 1 ; through(8, 1) = 0
            cross(9) = 1
            through(9, 0) = 0 ; spoil(9, 0) = 1 ; through(9, 0) = 1
            through(9, 1) = 1 ; spoil(9, 1) = 1 ; through(9, 1) = 0
            """);
        holds("Rope", "Wrong weaves stay where they are, whatever words and codes are set, until they are mended.",
            SMALLEST, """
            spoil(8, 0) = 1 ; spoil(1, 0) = 1
            weave(0, 1) = 0 ; through(8, 0) = 0 ; count(6) = 2
            text "0"
            load() = 1 ; through(8, 0) = 1 ; count(6) = 2
            cross(8) = 1 ; through(8, 0) = 0 ; count(6) = 2
            economize() = 2 ; through(8, 0) = 1 ; count(6) = 2   // 8 is straight again, 9 is crossed
            through(1, 0) = 1
            setCode(0, 3) = 0 ; through(1, 0) = 0 ; count(6) = 2
            setCode(0, 2) = 3 ; through(1, 0) = 1 ; count(6) = 2
            patchAll() = 0 ; count(6) = 2
            spoil(8, 0) = 0 ; through(8, 0) = 0 ; count(6) = 1
            spoil(1, 0) = 0 ; through(1, 0) = 0 ; count(6) = 0
            """);
    }

    private static void costs() {
        holds("Weaving costs", "The cost of a wire is the number of rings through which it goes, rightly woven"
            + " (wrong weaves do not count)", """
            begin(3, 2, 1) = 16
            weave(0, 2) = 0 ; weave(1, 2) = 0 ; weave(2, 2) = 0
            cost(8) = 0 ; cost(9) = 3 ; cost(10) = 0   // no ring, all rings, no ring
            cost(0) = 2 ; cost(1) = 1 ; cost(6) = 3 ; cost(7) = 0
            spoil(8, 0) = 1 ; cost(8) = 0 ; spoil(9, 2) = 1 ; cost(9) = 3
            spoil(7, 0) = 1 ; cost(7) = 0 ; spoil(6, 2) = 1 ; cost(6) = 3
            weave(2, 1) = 2
            cost(8) = 1 ; cost(9) = 2
            setCode(0, 15) = 0
            cost(6) = 2 ; cost(7) = 1
            """);
        holds("Weaving costs", "for a crossed sense wire it is 1 more.", """
            begin(3, 2, 1) = 16
            weave(0, 2) = 0 ; weave(1, 2) = 0 ; weave(2, 2) = 0
            cross(8) = 1 ; cross(9) = 1
            cost(8) = 4 ; cost(9) = 1   // 3 rings and 1, no ring and 1
            spoil(8, 0) = 1 ; cost(8) = 4 ; spoil(9, 0) = 1 ; cost(9) = 1
            cross(8) = 0 ; cross(9) = 0
            cost(8) = 0 ; cost(9) = 3
            """);
        holds("Weaving costs", "The cost of a rope is the sum of the costs of all its wires.", SMALLEST, """
            // the code bit 0 costs 1 for each value, each other bit 2 for the value 0
            cost(0) = 1 ; cost(1) = 1 ; cost(2) = 2 ; cost(3) = 0 ; cost(4) = 2 ; cost(5) = 0 ; cost(6) = 2 ; cost(7) = 0
            cost(8) = 0 ; cost(9) = 2 ; count(8) = 10
            cross(9) = 1 ; cost(9) = 1 ; count(8) = 9
            cross(8) = 1 ; cost(8) = 3 ; count(8) = 12
            spoil(8, 0) = 1 ; spoil(0, 0) = 1 ; count(8) = 12
            begin(16, 10, 3) = 2
            count(8) = 112   // 16 * 4, and 16 for each parity wire
            cost(7) = 8 ; cost(40) = 16 ; cost(41) = BAD_INDEX
            economize() = 3 ; count(8) = 67
            """);
    }

    private static void newObject() {
        holds("Promise 1", "Creates a rope as it is described, with all words 0, without wrong weaves and patches,"
            + " and with an empty text.", """
            count(0) = 8 ; count(1) = 6 ; count(2) = 2 ; count(3) = 16 ; count(4) = 22
            count(5) = 0 ; count(6) = 0 ; count(7) = 0 ; count(8) = 48   // 8 * 4, and 8 for both parity wires
            """, each(0, 7, "code(#) = #"), each(0, 15, "word(#) = 0 ; read(#) = 0 ; parity(#) = 1 ; patchOf(#) = NONE"),
            each(0, 7, "through(13, #) = 0 ; through(14, #) = 1 ; through(15, #) = 0 ; through(21, #) = 1"), """
            word(16) = BAD_INDEX ; code(8) = BAD_INDEX ; cost(22) = BAD_INDEX
            wrong(0) = 0 ; wrong(1) = 0 ; wrong(2) = 0 ; wrong(3) = 0
            textFault() = 0 ; load() = BAD_STATE ; clearText() = 0 ; undo() = BAD_STATE
            """);
    }

    private static void begin() {
        holds("Promise 2", "rings: R, 2 to 16", """
            begin(LOWEST, 1, 1) = BAD_VALUE ; begin(-1, 1, 1) = BAD_VALUE ; begin(0, 1, 1) = BAD_VALUE
            begin(1, 1, 1) = BAD_VALUE ; begin(17, 1, 1) = BAD_VALUE ; begin(HIGHEST, 1, 1) = BAD_VALUE
            count(0) = 8 ; undo() = BAD_STATE
            begin(2, 1, 1) = 16 ; begin(16, 1, 1) = 2 ; count(0) = 16
            """);
        holds("Promise 2", "bits: B, 1 to 10", """
            begin(2, LOWEST, 1) = BAD_VALUE ; begin(2, -1, 1) = BAD_VALUE ; begin(2, 0, 1) = BAD_VALUE
            begin(2, 11, 1) = BAD_VALUE ; begin(2, 33, 1) = BAD_VALUE ; begin(2, HIGHEST, 1) = BAD_VALUE
            count(1) = 6 ; undo() = BAD_STATE
            begin(2, 1, 1) = 16 ; begin(2, 10, 1) = 2 ; count(1) = 10
            """);
        holds("Promise 2", "sets: S, 1 to 3", """
            begin(2, 1, LOWEST) = BAD_VALUE ; begin(2, 1, -1) = BAD_VALUE ; begin(2, 1, 0) = BAD_VALUE
            begin(2, 1, 4) = BAD_VALUE ; begin(2, 1, HIGHEST) = BAD_VALUE
            count(2) = 2 ; undo() = BAD_STATE
            begin(2, 1, 1) = 16 ; begin(2, 1, 3) = 2 ; count(2) = 3
            """);
        holds("Promise 2", "Begins a new rope: all words 0, codes as at first, sense wires straight, no wrong weaves and"
            + " patches. Recorded.", """
            weave(0, 63) = 0 ; weave(15, 63) = 0 ; setCode(0, 15) = 0 ; setCode(7, 0) = 7
            cross(8) = 1 ; cross(21) = 1 ; spoil(0, 0) = 1 ; spoil(21, 7) = 1 ; patch(0, 1) = 1 ; patch(15, 1) = 2
            text "1"
            remember
            begin(8, 6, 2) = 16   // as large as it was
            word(0) = 0 ; word(15) = 0 ; code(0) = 0 ; code(7) = 7 ; count(5) = 0 ; count(6) = 0 ; count(7) = 0
            through(8, 0) = 0 ; through(21, 7) = 1 ; patchOf(0) = NONE ; patchOf(15) = NONE
            undo() = 4
            unchanged
            begin(16, 10, 3) = 16   // and larger: nothing of what was before is left
            """, each(0, 15, "code(#) = #"), each(0, 47, "word(#) = 0 ; read(#) = 0 ; patchOf(#) = NONE"), """
            count(5) = 0 ; count(6) = 0 ; count(7) = 0 ; count(8) = 112
            clearText() = 1   // the text is no part of a rope
            """);
        holds("Promise 2", "Returns the previous number of addresses; BAD_VALUE if an argument is out of range.", """
            begin(2, 1, 1) = 16 ; begin(3, 1, 1) = 2 ; begin(2, 1, 3) = 3 ; begin(16, 10, 3) = 6
            begin(1, 10, 3) = BAD_VALUE ; begin(16, 11, 3) = BAD_VALUE ; begin(16, 10, 4) = BAD_VALUE
            begin(0, 0, 0) = BAD_VALUE
            begin(16, 10, 3) = 48
            """);
    }

    private static void count() {
        holds("Promise 3", "what: 0 R, 1 B, 2 S, 3 addresses, 4 wires (the inhibit wires included), 5 crossed sense wires,"
            + " 6 wrong weaves, 7 patches, 8 the cost of the rope", """
            begin(5, 4, 3) = 16
            weave(14, 15) = 0 ; cross(8) = 1 ; cross(22) = 1 ; spoil(0, 4) = 1 ; spoil(22, 4) = 1 ; spoil(22, 3) = 1
            patch(14, 1) = 1
            count(0) = 5 ; count(1) = 4 ; count(2) = 3 ; count(3) = 15 ; count(4) = 23
            count(5) = 2 ; count(6) = 3 ; count(7) = 1
            // 5 * 4 for the codes; the words: 4 ones; the parities: 15 ones (4 ones want a fifth);
            // crossed 8: 5 + 1, crossed 22, a parity wire of 5 ones: 1 instead of 5
            count(8) = 41
            """);
        holds("Promise 3", "5 crossed sense wires", LARGEST,
            "count(5) = 0\n", each(8, 40, "cross(#) = 1"), "count(5) = 33 ; cross(40) = 0 ; count(5) = 32");
        holds("Promise 3", "6 wrong weaves", SMALLEST,
            "count(6) = 0\n", each(0, 9, "spoil(#, 0) = 1 ; spoil(#, 1) = 1"), "count(6) = 20 ; spoil(9, 1) = 0 ; count(6) = 19");
        holds("Promise 3", "7 patches", """
            count(7) = 0
            patch(0, 0) = 1 ; count(7) = 1 ; patch(1, 0) = 2 ; patch(14, 0) = 3 ; patch(15, 0) = 4 ; count(7) = 4
            patch(2, 0) = FULL ; count(7) = 4
            unpatch(0) = 3 ; count(7) = 3
            """);
        holds("Promise 3", "Returns the number; BAD_VALUE if what is out of range.", """
            count(LOWEST) = BAD_VALUE ; count(-1) = BAD_VALUE ; count(0) = 8 ; count(8) = 48
            count(9) = BAD_VALUE ; count(HIGHEST) = BAD_VALUE
            """);
    }

    private static void settingCodes() {
        holds("Promise 4", "Sets the code of a ring; the inhibit wires are woven for it. Recorded.", """
            through(6, 0) = 1 ; through(7, 0) = 0
            setCode(0, 8) = 0
            through(6, 0) = 0 ; through(7, 0) = 1 ; through(0, 0) = 1 ; picked(0) = 0 ; picked(8) = 1
            undo() = 0
            code(0) = 0 ; through(6, 0) = 1 ; through(7, 0) = 0
            """);
        holds("Promise 4", "ring: 0 to R - 1", SMALLEST, """
            setCode(LOWEST, 9) = BAD_INDEX ; setCode(-1, 9) = BAD_INDEX
            setCode(0, 9) = 0 ; setCode(1, 8) = 1
            setCode(2, 9) = BAD_INDEX ; setCode(2, 7) = BAD_INDEX ; setCode(HIGHEST, 9) = BAD_INDEX
            begin(16, 1, 1) = 2 ; setCode(15, 15) = 15 ; setCode(16, 15) = BAD_INDEX
            """);
        holds("Promise 4", "code: 0 to 15", SMALLEST, """
            setCode(1, LOWEST) = BAD_VALUE ; setCode(1, -1) = BAD_VALUE ; setCode(1, 16) = BAD_VALUE
            setCode(1, HIGHEST) = BAD_VALUE
            setCode(0, 15) = 0 ; setCode(1, 0) = 1 ; code(0) = 15 ; code(1) = 0
            """);
        holds("Promise 4", "Returns the previous code; BAD_INDEX if there is no such ring; BAD_VALUE if code is out of range;"
            + " BAD_STATE if another ring has it.", """
            setCode(3, 7) = BAD_STATE ; setCode(3, 0) = BAD_STATE   // the last ring has it, the first one has it
            setCode(3, 3) = 3                                       // no other ring has it
            setCode(3, 8) = 3                                       // no ring has it
            setCode(2, 3) = 2                                       // no ring has it any longer
            setCode(3, 8) = 8 ; setCode(3, 3) = BAD_STATE
            begin(7, 1, 1) = 16 ; setCode(0, 7) = 0                 // the ring that had it is there no longer
            """);
        holds("Promise 5", "ring: 0 to R - 1", """
            code(LOWEST) = BAD_INDEX ; code(-1) = BAD_INDEX ; code(0) = 0 ; code(7) = 7
            code(8) = BAD_INDEX ; code(HIGHEST) = BAD_INDEX
            begin(2, 1, 1) = 16 ; code(1) = 1 ; code(2) = BAD_INDEX
            begin(16, 1, 1) = 2 ; code(15) = 15 ; code(16) = BAD_INDEX
            """);
        holds("Promise 5", "Returns the code; BAD_INDEX if there is no such ring.", """
            setCode(7, 15) = 7 ; setCode(0, 7) = 0 ; spoil(1, 7) = 1
            code(7) = 15 ; code(0) = 7 ; code(1) = 1 ; code(8) = BAD_INDEX
            """);
    }

    private static void weaving() {
        holds("Promise 6", "Sets the word that is to be at an address; the sense wires are woven for it. Recorded.", """
            weave(15, 33) = 0
            through(15, 7) = 1 ; through(16, 7) = 0 ; through(20, 7) = 1 ; through(21, 7) = 1 ; through(8, 7) = 0
            undo() = 0
            word(15) = 0 ; through(15, 7) = 0 ; through(20, 7) = 0 ; through(21, 7) = 1
            """);
        holds("Promise 6", "address: 0 to R * S - 1", """
            weave(LOWEST, 1) = BAD_INDEX ; weave(-1, 1) = BAD_INDEX ; weave(0, 1) = 0 ; weave(15, 1) = 0
            weave(16, 1) = BAD_INDEX ; weave(HIGHEST, 1) = BAD_INDEX
            begin(2, 1, 1) = 16 ; weave(1, 1) = 0 ; weave(2, 1) = BAD_INDEX
            begin(16, 1, 3) = 2 ; weave(47, 1) = 0 ; weave(48, 1) = BAD_INDEX
            """);
        holds("Promise 6", "word: 0 to 2^B - 1", """
            weave(0, LOWEST) = BAD_VALUE ; weave(0, -1) = BAD_VALUE ; weave(0, 63) = 0 ; weave(0, 0) = 63
            weave(0, 64) = BAD_VALUE ; weave(0, HIGHEST) = BAD_VALUE
            begin(2, 1, 1) = 16 ; weave(0, 1) = 0 ; weave(0, 2) = BAD_VALUE
            begin(2, 10, 1) = 2 ; weave(0, 1023) = 0 ; weave(0, 1024) = BAD_VALUE
            """);
        holds("Promise 6", "Returns the previous one; BAD_INDEX if there is no such address; BAD_VALUE if word is out of range.",
            """
            weave(4, 1) = 0 ; weave(4, 2) = 1 ; weave(4, 2) = 2 ; weave(4, 0) = 2
            weave(16, 64) = BAD_INDEX ; weave(4, 64) = BAD_VALUE ; weave(4, 63) = 0
            """);
        holds("Promise 7", "address: 0 to R * S - 1", """
            word(LOWEST) = BAD_INDEX ; word(-1) = BAD_INDEX ; word(0) = 0 ; word(15) = 0
            word(16) = BAD_INDEX ; word(HIGHEST) = BAD_INDEX
            begin(2, 1, 1) = 16 ; word(1) = 0 ; word(2) = BAD_INDEX
            begin(16, 10, 3) = 2 ; word(47) = 0 ; word(48) = BAD_INDEX
            """);
        holds("Promise 7", "Returns the word; BAD_INDEX if there is no such address.", LARGEST, """
            weave(0, 1023) = 0 ; weave(47, 1) = 0 ; word(0) = 1023 ; word(1) = 0 ; word(46) = 0 ; word(47) = 1
            word(48) = BAD_INDEX
            begin(16, 10, 2) = 48 ; word(31) = 0 ; word(32) = BAD_INDEX   // there, as long as there was a third set
            """);
        holds("Promise 7", "Returns the word that is to be at an address.", """
            weave(0, 63) = 0 ; spoil(8, 0) = 1 ; spoil(0, 0) = 1 ; spoil(1, 0) = 1 ; patch(0, 5) = 1 ; cross(9) = 1
            word(0) = 63 ; word(1) = 0
            """);
    }

    private static void wires() {
        holds("Promise 8", "wire: 0 to 7 + S * (B + 1)", """
            cross(LOWEST) = BAD_INDEX ; cross(-1) = BAD_INDEX ; cross(0) = BAD_STATE ; cross(7) = BAD_STATE
            cross(8) = 1 ; cross(21) = 1 ; cross(22) = BAD_INDEX ; cross(HIGHEST) = BAD_INDEX
            begin(2, 1, 1) = 16 ; cross(9) = 1 ; cross(10) = BAD_INDEX
            begin(2, 10, 3) = 2 ; cross(40) = 1 ; cross(41) = BAD_INDEX
            """);
        holds("Promise 8", "Crosses a sense wire, or makes it straight again. Recorded.", """
            cross(21) = 1 ; through(21, 7) = 0 ; cross(21) = 0 ; through(21, 7) = 1
            undo() = 1 ; through(21, 7) = 0 ; undo() = 0 ; through(21, 7) = 1
            """);
        holds("Promise 8", "Returns 1 if it is crossed then, else 0; BAD_INDEX if there is no such wire; BAD_STATE if it is an"
            + " inhibit wire.", """
            cross(8) = 1 ; cross(8) = 0 ; cross(8) = 1 ; cross(9) = 1 ; cross(22) = BAD_INDEX
            """, each(0, 7, "cross(#) = BAD_STATE"), "count(5) = 2");
        holds("Promise 9", "wire: 0 to 7 + S * (B + 1)", """
            through(LOWEST, 0) = BAD_INDEX ; through(-1, 0) = BAD_INDEX ; through(0, 0) = 1 ; through(21, 0) = 1
            through(22, 0) = BAD_INDEX ; through(HIGHEST, 0) = BAD_INDEX
            begin(2, 1, 1) = 16 ; through(9, 0) = 1 ; through(10, 0) = BAD_INDEX
            begin(2, 10, 3) = 2 ; through(40, 0) = 1 ; through(41, 0) = BAD_INDEX
            """);
        holds("Promise 9", "ring: 0 to R - 1", """
            through(0, LOWEST) = BAD_INDEX ; through(0, -1) = BAD_INDEX ; through(0, 0) = 1 ; through(0, 7) = 0
            through(0, 8) = BAD_INDEX ; through(0, HIGHEST) = BAD_INDEX
            begin(2, 1, 1) = 16 ; through(8, 1) = 0 ; through(8, 2) = BAD_INDEX
            begin(16, 1, 1) = 2 ; through(7, 15) = 1 ; through(7, 16) = BAD_INDEX
            through(-1, -1) = BAD_INDEX ; through(10, 16) = BAD_INDEX
            """);
        holds("Promise 9", "Tells whether a wire goes through a ring (wrong weaves count).", """
            through(0, 0) = 1 ; through(8, 7) = 0
            spoil(0, 0) = 1 ; spoil(8, 7) = 1
            through(0, 0) = 0 ; through(8, 7) = 1 ; through(0, 1) = 0 ; through(8, 6) = 0
            """);
        holds("Promise 9", "Returns 1 if it does, else 0; BAD_INDEX if there is no such ring or wire.", LARGEST, """
            through(7, 15) = 1 ; through(6, 15) = 0 ; through(40, 15) = 1 ; through(39, 15) = 0
            through(41, 15) = BAD_INDEX ; through(40, 16) = BAD_INDEX ; through(41, 16) = BAD_INDEX
            begin(15, 9, 3) = 48 ; through(37, 14) = 1 ; through(38, 14) = BAD_INDEX ; through(37, 15) = BAD_INDEX
            """);
        holds("Promise 10", "Returns the cost; BAD_INDEX if there is no such wire.", LARGEST, """
            cost(0) = 8 ; cost(7) = 8 ; cost(8) = 0 ; cost(40) = 16 ; cost(41) = BAD_INDEX
            cross(8) = 1 ; cost(8) = 17 ; cross(40) = 1 ; cost(40) = 1   // the highest cost, and the least of a crossed wire
            begin(2, 10, 2) = 48 ; cost(29) = 2 ; cost(30) = BAD_INDEX
            """);
        holds("Promise 10", "wire: 0 to 7 + S * (B + 1)", """
            cost(LOWEST) = BAD_INDEX ; cost(-1) = BAD_INDEX ; cost(0) = 4 ; cost(21) = 8
            cost(22) = BAD_INDEX ; cost(HIGHEST) = BAD_INDEX
            begin(2, 1, 1) = 16 ; cost(9) = 2 ; cost(10) = BAD_INDEX
            begin(16, 10, 3) = 2 ; cost(40) = 16 ; cost(41) = BAD_INDEX
            """);
    }

    private static void economy() {
        String rightly = "Makes each sense wire straight or crossed, as it costs less; straight if both cost as much. Recorded.";
        holds("Promise 11", rightly, """
            begin(3, 3, 1) = 16
            // ones of the bits 0, 1, 2: 1, 2, 3; of the parity: 1
            weave(0, 7) = 0 ; weave(1, 6) = 0 ; weave(2, 4) = 0
            economize() = 1
            cost(8) = 1 ; cost(9) = 2 ; cost(10) = 1 ; cost(11) = 1
            through(9, 0) = 1 ; through(10, 0) = 0 ; count(5) = 1
            // crossed, the bit 1 costs 2 as well: it becomes straight again
            cross(9) = 1 ; cost(9) = 2 ; through(9, 0) = 0
            economize() = 1
            through(9, 0) = 1 ; count(5) = 1
            undo() = 4 ; count(5) = 2 ; undo() = 3 ; count(5) = 1 ; undo() = 2 ; count(5) = 0
            """);
        holds("Promise 11", "as it costs less", "begin(16, 1, 1) = 16\n", each(0, 7, "weave(#, 1) = 0"), """
            economize() = 0 ; cost(8) = 8 ; cost(9) = 8      // 8, crossed 9
            weave(8, 1) = 0
            economize() = 1 ; cost(8) = 8 ; through(8, 15) = 1 ; cost(9) = 7   // 9, crossed 8
            weave(8, 0) = 1
            economize() = 1 ; cost(8) = 8 ; through(8, 15) = 0
            """);
        holds("Promise 11", "straight if both cost as much", "begin(15, 1, 1) = 16\n", each(0, 7, "weave(#, 1) = 0"), """
            economize() = 0 ; cost(8) = 8 ; through(8, 14) = 0   // 8, crossed 7 + 1
            weave(8, 1) = 0
            economize() = 1 ; cost(8) = 7 ; through(8, 14) = 1   // 9, crossed 6 + 1
            begin(2, 1, 1) = 15
            weave(0, 1) = 0
            economize() = 0                                      // 1, crossed 1 + 1
            weave(1, 1) = 0
            economize() = 1 ; cost(8) = 1 ; cost(9) = 0          // 2, crossed 0 + 1
            """);
        holds("Promise 11", "Returns how many wires are changed by it.", LARGEST,
            each(8, 17, "cross(#) = 1"), each(19, 28, "cross(#) = 1"), each(30, 39, "cross(#) = 1"), """
            economize() = 33   // the 30 wires of bits straight, the three parity wires crossed
            economize() = 0
            cross(29) = 0
            economize() = 1
            spoil(8, 0) = 1 ; spoil(29, 1) = 1 ; economize() = 0   // wrong weaves do not count
            """);
    }

    private static void spoiling() {
        holds("Promise 17", "wire: 0 to 7 + S * (B + 1)", """
            spoil(LOWEST, 0) = BAD_INDEX ; spoil(-1, 0) = BAD_INDEX ; spoil(0, 0) = 1 ; spoil(21, 0) = 1
            spoil(22, 0) = BAD_INDEX ; spoil(HIGHEST, 0) = BAD_INDEX ; count(6) = 2
            begin(2, 1, 1) = 16 ; spoil(9, 0) = 1 ; spoil(10, 0) = BAD_INDEX
            begin(2, 10, 3) = 2 ; spoil(40, 0) = 1 ; spoil(41, 0) = BAD_INDEX
            """);
        holds("Promise 17", "ring: 0 to R - 1", """
            spoil(8, LOWEST) = BAD_INDEX ; spoil(8, -1) = BAD_INDEX ; spoil(8, 0) = 1 ; spoil(8, 7) = 1
            spoil(8, 8) = BAD_INDEX ; spoil(8, HIGHEST) = BAD_INDEX ; count(6) = 2
            begin(2, 1, 1) = 16 ; spoil(8, 1) = 1 ; spoil(8, 2) = BAD_INDEX
            begin(16, 1, 1) = 2 ; spoil(8, 15) = 1 ; spoil(8, 16) = BAD_INDEX
            """);
        holds("Promise 17", "Makes a wrong weave, or mends it, if there is one at this ring and wire. Recorded.", """
            spoil(8, 0) = 1 ; spoil(8, 1) = 1 ; spoil(9, 0) = 1 ; count(6) = 3
            spoil(8, 0) = 0 ; count(6) = 2 ; through(8, 0) = 0 ; through(8, 1) = 1 ; through(9, 0) = 1
            undo() = 3 ; count(6) = 3 ; through(8, 0) = 1
            """);
        holds("Promise 17", "Returns 1 if it is a wrong weave then, else 0; BAD_INDEX if there is no such ring or wire.", """
            spoil(0, 7) = 1 ; spoil(0, 7) = 0 ; spoil(0, 7) = 1 ; spoil(21, 7) = 1 ; spoil(21, 7) = 0
            spoil(22, 7) = BAD_INDEX ; spoil(21, 8) = BAD_INDEX ; spoil(22, 8) = BAD_INDEX ; count(6) = 1
            """);
    }

    public static void main(String[] args) {
        sizes();
        codes();
        senseWires();
        costs();
        newObject();
        begin();
        count();
        settingCodes();
        weaving();
        wires();
        economy();
        spoiling();
        Sentences.finish();
    }
}
