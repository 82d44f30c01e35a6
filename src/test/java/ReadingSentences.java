/** The sentences on reading, faults and patches: 'Reading', 'Faults', promises 12 to 22 but for 17. */
public final class ReadingSentences {
    private static final String SMALLEST = "begin(2, 1, 1) = 16\n", LARGEST = "begin(16, 10, 3) = 16\n";

    private static void holds(String section, String sentence, String... run) {
        Sentences.holds(section, sentence, run);
    }

    private static String each(int first, int last, String calls) {
        return Sentences.each(first, last, calls);
    }

    private static void picking() {
        String picks = "picked are all rings through which no wire that is on goes.";
        holds("Reading", picks, """
            picked(0) = 1 ; picked(7) = 128      // one ring
            picked(8) = 0 ; picked(15) = 0       // no ring
            // the wire 0 is on for the odd codes; it goes round ring 2 now, so 3 picks 2 and 3
            spoil(0, 2) = 1
            picked(3) = 12 ; picked(2) = 4 ; picked(1) = 2
            // the wire 6 is on for the codes from 8 on; 10 picks ring 2, and 11 does, too
            spoil(6, 2) = 1
            picked(10) = 4 ; picked(11) = 4 ; picked(8) = 0
            // the wire 1 is on for the even codes; it goes through ring 0 now, which is picked no longer
            spoil(1, 0) = 1
            picked(0) = 0
            """);
        holds("Reading", "for each of its bits, the inhibit wire for this bit and the other value than the code has there is on",
            """
            begin(16, 1, 1) = 16
            picked(0) = 1 ; picked(5) = 32 ; picked(15) = 32768
            // the wires 1, 3, 5 and 7 are on for the code 0: each of them alone keeps ring 0 out
            spoil(1, 0) = 1 ; picked(0) = 0 ; spoil(1, 0) = 0 ; picked(0) = 1
            spoil(3, 0) = 1 ; picked(0) = 0 ; spoil(3, 0) = 0 ; picked(0) = 1
            spoil(5, 0) = 1 ; picked(0) = 0 ; spoil(5, 0) = 0 ; picked(0) = 1
            spoil(7, 0) = 1 ; picked(0) = 0 ; spoil(7, 0) = 0 ; picked(0) = 1
            // 0, 2, 4 and 6 are on for the code 15
            spoil(0, 15) = 1 ; picked(15) = 0 ; spoil(0, 15) = 0 ; picked(15) = 32768
            spoil(2, 15) = 1 ; picked(15) = 0 ; spoil(2, 15) = 0 ; picked(15) = 32768
            spoil(4, 15) = 1 ; picked(15) = 0 ; spoil(4, 15) = 0 ; picked(15) = 32768
            spoil(6, 15) = 1 ; picked(15) = 0 ; spoil(6, 15) = 0 ; picked(15) = 32768
            // and for the code 0 they are not
            spoil(0, 1) = 1 ; spoil(2, 2) = 1 ; spoil(4, 4) = 1 ; spoil(6, 8) = 1
            picked(0) = 1
            """);
        StringBuilder aside = new StringBuilder("begin(16, 1, 1) = 16\n");
        for (int bit = 0; bit < 4; bit++) {
            for (int ring = 0; ring < 16; ring++) {
                if ((ring >> bit) % 2 == 1) aside.append("spoil(" + (2 * bit + 1) + ", " + ring + ") = 1\n");
            }
        }
        holds("Promise 12", "Returns the set of rings (the sum of 2^r for each ring r); BAD_VALUE if code is out of range.",
            aside.toString(), """
            // no wire that is on for the code 0 goes through a ring any longer
            count(6) = 32
            picked(0) = 65535 ; picked(15) = 32768
            picked(1) = 43690   // the rings with an odd number: what keeps the others out is the wire 0
            begin(2, 1, 1) = 16
            picked(0) = 1 ; picked(1) = 2 ; picked(2) = 0
            """);
        holds("Promise 12", "code: 0 to 15", """
            picked(LOWEST) = BAD_VALUE ; picked(-1) = BAD_VALUE ; picked(0) = 1 ; picked(15) = 0
            picked(16) = BAD_VALUE ; picked(HIGHEST) = BAD_VALUE
            setCode(3, 15) = 3 ; picked(15) = 8
            """);
    }

    private static void rawBits() {
        // At the address 3, the rings 2 (0011) and 3 (0101) are picked; at the address 1, none is.
        String two = """
            begin(4, 4, 1) = 16
            weave(0, 15) = 0 ; weave(1, 15) = 0 ; weave(2, 3) = 0 ; weave(3, 5) = 0
            spoil(0, 2) = 1 ; spoil(7, 1) = 1
            picked(3) = 12 ; picked(1) = 0
            """;
        holds("Reading", "The raw bit of a sense wire is 1 if it goes through at least one of the picked rings;", two, """
            read(0) = 15 ; read(2) = 3 ; parity(0) = 1 ; parity(2) = 1
            read(3) = 7 ; parity(3) = 0    // through both, ring 2, ring 3, none; the parity wire through both
            read(1) = 0 ; parity(1) = 0    // no ring, no one
            """);
        holds("Reading", "if it is crossed, the raw bit is the other way round.", two,
            each(8, 11, "cross(#) = 1"), """
            read(0) = 15 ; read(2) = 3
            // bit 0: through none of both; 1 and 2: through one; 3: through both
            read(3) = 1 ; parity(3) = 0
            read(1) = 15 ; parity(1) = 0   // no ring: each bit is 1, the straight parity wire's is 0
            cross(12) = 1
            read(3) = 1 ; parity(3) = 0 ; read(1) = 15 ; parity(1) = 1
            cross(8) = 0
            read(3) = 1 ; read(1) = 14 ; parity(1) = 0
            """);
        holds("Reading", "Reading an address means that the code of its ring picks rings, and the B raw bits of its set are"
            + " the word", LARGEST, """
            weave(0, 1) = 0 ; weave(1, 2) = 0 ; weave(2, 4) = 0 ; weave(45, 256) = 0 ; weave(46, 512) = 0 ; weave(47, 1023) = 0
            read(0) = 1 ; read(1) = 2 ; read(2) = 4 ; read(45) = 256 ; read(46) = 512 ; read(47) = 1023
            setCode(15, 15) = 15
            // the wire 6 goes round ring 7: the code 15 picks ring 7 as well
            weave(21, 1) = 0 ; weave(23, 5) = 0 ; spoil(6, 7) = 1
            picked(15) = 32896 ; read(45) = 257 ; read(46) = 512 ; read(47) = 1023
            read(21) = 1 ; read(22) = 0 ; read(23) = 5
            """);
        holds("Reading", "its parity is right if the number of ones among the B + 1 raw bits is odd.", """
            begin(2, 2, 1) = 16
            read(0) = 0 ; parity(0) = 1                       // 00 and 1: one
            spoil(10, 0) = 1 ; read(0) = 0 ; parity(0) = 0    // 00 and 0: none
            spoil(8, 0) = 1 ; read(0) = 1 ; parity(0) = 1     // 01 and 0: one
            spoil(9, 0) = 1 ; read(0) = 3 ; parity(0) = 0     // 11 and 0: two
            spoil(10, 0) = 0 ; read(0) = 3 ; parity(0) = 1    // 11 and 1: three
            begin(2, 10, 1) = 2
            weave(0, 1023) = 0 ; parity(0) = 1 ; spoil(18, 0) = 1 ; parity(0) = 0   // eleven, ten
            begin(2, 9, 1) = 2
            weave(0, 511) = 0 ; parity(0) = 1 ; spoil(17, 0) = 1 ; parity(0) = 0    // nine, ten
            begin(2, 1, 1) = 2
            weave(0, 1) = 0 ; parity(0) = 1 ; spoil(9, 0) = 1 ; parity(0) = 0       // one, two
            """);
        for (int promise = 13; promise <= 15; promise++) {
            String call = promise == 13 ? "read" : promise == 14 ? "readRaw" : "parity";
            String due = promise == 15 ? "1" : "0";
            holds("Promise " + promise, "address: 0 to R * S - 1", """
                CALL(LOWEST) = BAD_INDEX ; CALL(-1) = BAD_INDEX ; CALL(0) = DUE ; CALL(15) = DUE
                CALL(16) = BAD_INDEX ; CALL(HIGHEST) = BAD_INDEX
                begin(2, 1, 1) = 16 ; CALL(1) = DUE ; CALL(2) = BAD_INDEX
                begin(16, 10, 3) = 2 ; CALL(47) = DUE ; CALL(48) = BAD_INDEX
                """.replace("CALL", call).replace("DUE", due));
        }
        holds("Promise 13", "Returns the word; BAD_INDEX if there is no such address.", LARGEST, """
            weave(0, 1023) = 0 ; weave(47, 1) = 0 ; patch(1, 1023) = 1 ; patch(46, 0) = 2
            read(0) = 1023 ; read(1) = 1023 ; read(2) = 0 ; read(46) = 0 ; read(47) = 1 ; read(48) = BAD_INDEX
            begin(15, 10, 3) = 48 ; read(44) = 0 ; read(45) = BAD_INDEX
            """);
        holds("Promise 14", "Returns the word; BAD_INDEX if there is no such address.", LARGEST, """
            weave(0, 1023) = 0 ; weave(47, 1) = 0 ; patch(1, 1023) = 1 ; patch(47, 0) = 2
            readRaw(0) = 1023 ; readRaw(1) = 0 ; readRaw(47) = 1 ; readRaw(48) = BAD_INDEX
            begin(15, 10, 3) = 48 ; readRaw(44) = 0 ; readRaw(45) = BAD_INDEX
            """);
        holds("Promise 15", "Returns 1 if it is, else 0; BAD_INDEX if there is no such address.", LARGEST, """
            spoil(18, 0) = 1 ; spoil(40, 15) = 1
            parity(0) = 0 ; parity(1) = 1 ; parity(2) = 1 ; parity(45) = 1 ; parity(46) = 1 ; parity(47) = 0
            parity(48) = BAD_INDEX
            patch(47, 0) = 1 ; parity(47) = 1 ; unpatch(47) = 0 ; parity(47) = 0
            begin(15, 10, 3) = 48 ; parity(44) = 1 ; parity(45) = BAD_INDEX
            """);
        holds("Promise 14", "Reads an address without patches.", """
            weave(0, 5) = 0 ; weave(15, 6) = 0 ; patch(0, 9) = 1 ; patch(15, 0) = 2
            readRaw(0) = 5 ; readRaw(15) = 6 ; read(0) = 9 ; read(15) = 0 ; readRaw(1) = 0
            spoil(8, 0) = 1 ; readRaw(0) = 4 ; read(0) = 9
            """);
    }

    private static void patches() {
        holds("Reading", "At most 4 addresses are patched, each with a word;", """
            patch(3, 7) = 1 ; patch(2, 6) = 2 ; patch(1, 5) = 3
            patch(0, 4) = 4
            patch(15, 3) = FULL ; patchOf(15) = NONE
            patchOf(0) = 4 ; patchOf(1) = 5 ; patchOf(2) = 6 ; patchOf(3) = 7 ; patchOf(4) = NONE
            patch(3, 1) = 4 ; patchOf(3) = 1        // patched already
            unpatch(2) = 3 ; patch(15, 3) = 4 ; patch(2, 6) = FULL
            """);
        holds("Reading", "what is told of an address that is patched is the word of the patch, with the right parity,"
            + " unless it is said that patches do not count.", """
            begin(2, 2, 1) = 16
            spoil(10, 0) = 1 ; parity(0) = 0 ; wrong(1) = 1
            patch(0, 3) = 1
            read(0) = 3 ; parity(0) = 1 ; wrong(0) = 1 ; wrong(1) = 0 ; wrong(2) = 1
            readRaw(0) = 0 ; wrong(3) = 0 ; word(0) = 0
            // the lost parity is a raw bit all the same: as if the code 0 picked nothing
            explains(0) = 16 ; explains(1) = 48 ; explains(2) = 80 ; explains(3) = 112 ; explains(4) = 160
            explains(5) = NONE
            patch(0, 0) = 1
            read(0) = 0 ; parity(0) = 1 ; wrong(0) = 0 ; wrong(2) = 0
            """);
        holds("Reading", "A patch stays when a word is set.", """
            patch(0, 3) = 1 ; patch(15, 0) = 2
            weave(0, 1) = 0 ; patchOf(0) = 3 ; read(0) = 3 ; word(0) = 1
            text "7"
            load() = 1 ; patchOf(0) = 3 ; read(0) = 3 ; word(0) = 7
            weave(0, 3) = 7 ; patchOf(0) = 3       // not needed any longer
            setCode(0, 15) = 0 ; cross(8) = 1 ; economize() = 3 ; spoil(8, 0) = 1
            patchOf(0) = 3 ; patchOf(15) = 0 ; count(7) = 2
            """);
        holds("Promise 19", "address: 0 to R * S - 1", """
            patch(LOWEST, 1) = BAD_INDEX ; patch(-1, 1) = BAD_INDEX ; patch(0, 1) = 1 ; patch(15, 1) = 2
            patch(16, 1) = BAD_INDEX ; patch(HIGHEST, 1) = BAD_INDEX
            begin(2, 1, 1) = 16 ; patch(1, 1) = 1 ; patch(2, 1) = BAD_INDEX
            begin(16, 10, 3) = 2 ; patch(47, 1) = 1 ; patch(48, 1) = BAD_INDEX
            """);
        holds("Promise 19", "word: 0 to 2^B - 1", """
            patch(0, LOWEST) = BAD_VALUE ; patch(0, -1) = BAD_VALUE ; patch(0, 0) = 1 ; patch(0, 63) = 1
            patch(0, 64) = BAD_VALUE ; patch(0, HIGHEST) = BAD_VALUE ; patchOf(0) = 63
            begin(2, 1, 1) = 16 ; patch(0, 1) = 1 ; patch(0, 2) = BAD_VALUE ; patchOf(0) = 1
            begin(2, 10, 1) = 2 ; patch(0, 1023) = 1 ; patch(0, 1024) = BAD_VALUE ; patchOf(0) = 1023
            """);
        holds("Promise 19", "Returns the number of patches then; BAD_INDEX if there is no such address; BAD_VALUE if word is"
            + " out of range; FULL if it is not patched, and there are 4 patches.", """
            patch(0, 0) = 1 ; patch(1, 0) = 2 ; patch(1, 9) = 2 ; patch(2, 0) = 3 ; patch(3, 0) = 4
            patch(4, 0) = FULL ; patch(4, 64) = BAD_VALUE ; patch(16, 64) = BAD_INDEX
            patch(0, 1) = 4 ; patch(3, 1) = 4 ; patch(0, 64) = BAD_VALUE
            patchOf(0) = 1 ; patchOf(1) = 9 ; patchOf(2) = 0 ; patchOf(3) = 1 ; patchOf(4) = NONE
            """);
        holds("Promise 19", "Patches an address, or sets its patch anew. Recorded.", """
            patch(0, 1) = 1 ; patch(0, 2) = 1
            undo() = 1 ; patchOf(0) = 1 ; undo() = 0 ; patchOf(0) = NONE
            """);
        holds("Promise 20", "address: 0 to R * S - 1", """
            patch(0, 1) = 1 ; patch(15, 1) = 2
            unpatch(LOWEST) = BAD_INDEX ; unpatch(-1) = BAD_INDEX ; unpatch(16) = BAD_INDEX
            unpatch(HIGHEST) = BAD_INDEX ; unpatch(15) = 1 ; unpatch(0) = 0
            begin(2, 1, 1) = 16 ; unpatch(1) = BAD_STATE ; unpatch(2) = BAD_INDEX
            begin(16, 1, 3) = 2 ; unpatch(47) = BAD_STATE ; unpatch(48) = BAD_INDEX
            """);
        holds("Promise 20", "Returns the number of patches that are left; BAD_INDEX if there is no such address; BAD_STATE if"
            + " it is not patched.", """
            unpatch(0) = BAD_STATE
            patch(0, 0) = 1 ; patch(1, 0) = 2 ; patch(2, 0) = 3 ; patch(3, 0) = 4
            unpatch(4) = BAD_STATE ; unpatch(1) = 3 ; unpatch(1) = BAD_STATE ; unpatch(0) = 2 ; unpatch(3) = 1
            unpatch(2) = 0 ; unpatch(2) = BAD_STATE
            """);
        holds("Promise 20", "Removes the patch of an address. Recorded.", """
            patch(0, 1) = 1 ; patch(1, 2) = 2 ; unpatch(0) = 1
            patchOf(0) = NONE ; read(0) = 0 ; patchOf(1) = 2
            undo() = 2 ; patchOf(0) = 1 ; read(0) = 1
            """);
        holds("Promise 22", "address: 0 to R * S - 1", """
            patchOf(LOWEST) = BAD_INDEX ; patchOf(-1) = BAD_INDEX ; patchOf(0) = NONE ; patchOf(15) = NONE
            patchOf(16) = BAD_INDEX ; patchOf(HIGHEST) = BAD_INDEX
            begin(2, 1, 1) = 16 ; patchOf(1) = NONE ; patchOf(2) = BAD_INDEX
            begin(16, 1, 3) = 2 ; patchOf(47) = NONE ; patchOf(48) = BAD_INDEX
            """);
        holds("Promise 22", "Returns its word; NONE if it is not patched; BAD_INDEX if there is no such address.", """
            patch(0, 0) = 1 ; patch(15, 63) = 2
            patchOf(0) = 0 ; patchOf(15) = 63 ; patchOf(1) = NONE ; patchOf(16) = BAD_INDEX
            """);
    }

    private static void patchAll() {
        holds("Promise 21", "as long as there are fewer than 4 patches", """
            begin(8, 3, 1) = 16
            patchAll() = 0 ; count(7) = 0                       // nothing is read wrongly
            spoil(8, 0) = 1 ; spoil(8, 1) = 1 ; spoil(8, 6) = 1
            patchAll() = 0 ; count(7) = 3
            begin(8, 3, 1) = 8
            spoil(8, 0) = 1 ; spoil(8, 1) = 1 ; spoil(8, 6) = 1 ; spoil(8, 7) = 1
            patchAll() = 0 ; count(7) = 4                       // four find room
            begin(8, 3, 1) = 8
            spoil(8, 0) = 1 ; spoil(8, 1) = 1 ; spoil(8, 4) = 1 ; spoil(8, 6) = 1 ; spoil(8, 7) = 1
            patchAll() = 1 ; count(7) = 4                       // a fifth does not
            patchOf(6) = 0 ; patchOf(7) = NONE ; read(7) = 1
            """);
        holds("Promise 21", "Patches addresses that are read wrongly (patches count) with the words that are to be there, in"
            + " ascending order", """
            begin(8, 3, 1) = 16
            weave(1, 5) = 0 ; weave(3, 6) = 0 ; weave(7, 7) = 0
            patch(0, 0) = 1 ; patch(1, 5) = 2 ; patch(2, 0) = 3  // rightly patched, so read rightly
            spoil(8, 1) = 1 ; spoil(8, 3) = 1 ; spoil(8, 7) = 1
            wrong(0) = 2 ; wrong(3) = 3
            patchAll() = 1
            patchOf(3) = 6 ; patchOf(7) = NONE ; patchOf(1) = 5
            """);
        holds("Promise 21", "patches with wrong words are set anew first", """
            begin(8, 3, 1) = 16
            patch(4, 1) = 1 ; patch(5, 0) = 2 ; patch(6, 3) = 3 ; patch(7, 7) = 4
            spoil(8, 0) = 1 ; weave(7, 2) = 0 ; spoil(8, 7) = 1
            wrong(0) = 4
            patchAll() = 1                                       // without room for the address 0
            patchOf(0) = NONE ; patchOf(4) = 0 ; patchOf(5) = 0 ; patchOf(6) = 0 ; patchOf(7) = 2
            unpatch(5) = 3 ; patchAll() = 0 ; patchOf(0) = 0 ; patchOf(5) = NONE
            // the first address and the last one
            begin(8, 3, 1) = 8
            patch(0, 1) = 1 ; patch(1, 1) = 2 ; patch(2, 1) = 3 ; patch(7, 1) = 4
            spoil(8, 3) = 1
            patchAll() = 1
            patchOf(0) = 0 ; patchOf(1) = 0 ; patchOf(2) = 0 ; patchOf(3) = NONE ; patchOf(7) = 0
            """);
        holds("Promise 21", "patches that are not needed stay. Recorded, as one call.", """
            patch(0, 0) = 1 ; patch(1, 1) = 2
            spoil(8, 4) = 1 ; spoil(8, 5) = 1
            patchAll() = 0
            patchOf(0) = 0 ; patchOf(1) = 0 ; patchOf(8) = 0 ; patchOf(10) = 0 ; count(7) = 4
            undo() = 4
            patchOf(0) = 0 ; patchOf(1) = 1 ; patchOf(8) = NONE ; patchOf(10) = NONE ; count(7) = 2
            """);
        holds("Promise 21", "Returns how many addresses are read wrongly then.",
            LARGEST, "patchAll() = 0 ; count(7) = 0 ; spoil(30, 15) = 1 ; patchAll() = 0 ; patchOf(47) = 0\n",
            "unpatch(47) = 0 ; spoil(30, 15) = 0\n", each(0, 15, "spoil(8, #) = 1 ; spoil(19, #) = 1 ; spoil(30, #) = 1"), """
            wrong(0) = 48 ; patchAll() = 44 ; patchAll() = 44 ; wrong(0) = 44 ; wrong(3) = 48
            patchOf(3) = 0 ; patchOf(4) = NONE
            begin(2, 1, 1) = 48
            spoil(9, 0) = 1 ; patchAll() = 0 ; count(7) = 0   // a wrong parity is no other word
            """);
    }

    private static void counting() {
        holds("Promise 16", "what: 0 those that are read as another word than the one that is to be there; 1 those whose"
            + " parity is not right (that of a patched one is); 2 those of 0 whose parity is right all the same; 3 as 0, but"
            + " without patches", """
            begin(6, 2, 1) = 16
            spoil(8, 1) = 1                      // 1: a bit, so the parity is wrong, too
            spoil(8, 2) = 1 ; spoil(9, 2) = 1    // 2: two bits, with the right parity
            spoil(10, 3) = 1                     // 3: the parity alone
            spoil(9, 5) = 1 ; spoil(10, 5) = 1   // 5: a bit and the parity
            wrong(0) = 3 ; wrong(1) = 2 ; wrong(2) = 2 ; wrong(3) = 3
            patch(0, 1) = 1 ; wrong(0) = 4 ; wrong(1) = 2 ; wrong(2) = 3 ; wrong(3) = 3   // patched wrongly
            patch(1, 0) = 2 ; wrong(0) = 3 ; wrong(1) = 1 ; wrong(2) = 3 ; wrong(3) = 3   // patched rightly
            patch(1, 1) = 2 ; wrong(0) = 4 ; wrong(1) = 1 ; wrong(2) = 4 ; wrong(3) = 3   // as it is read
            patch(3, 0) = 3 ; wrong(0) = 4 ; wrong(1) = 0 ; wrong(2) = 4 ; wrong(3) = 3
            """);
        holds("Promise 16", "Counts addresses.",
            LARGEST, "wrong(0) = 0 ; wrong(1) = 0 ; wrong(2) = 0 ; wrong(3) = 0\n",
            each(0, 15, "spoil(8, #) = 1 ; spoil(19, #) = 1 ; spoil(30, #) = 1"),
            "wrong(0) = 48 ; wrong(1) = 48 ; wrong(2) = 0 ; wrong(3) = 48\n",
            each(0, 15, "spoil(17, #) = 1 ; spoil(28, #) = 1 ; spoil(39, #) = 1"),
            "wrong(0) = 48 ; wrong(1) = 0 ; wrong(2) = 48 ; wrong(3) = 48\n");
        holds("Promise 16", "Returns the number; BAD_VALUE if what is out of range.", """
            wrong(LOWEST) = BAD_VALUE ; wrong(-1) = BAD_VALUE ; wrong(0) = 0 ; wrong(3) = 0
            wrong(4) = BAD_VALUE ; wrong(HIGHEST) = BAD_VALUE
            """);
    }

    private static void explaining() {
        String number = "A wrong weave is told by a number: 16 * wire + ring, with the inhibit wires as the wires 0 to 7, and the"
            + " sense wires behind them as 8, 9 and so on.";
        holds("Faults", number, """
            // the lowest sense weave: the bit 0 at ring 0
            spoil(8, 0) = 1 ; explains(0) = 128 ; explains(1) = NONE
            spoil(8, 0) = 0 ; spoil(9, 0) = 1 ; explains(0) = 144 ; explains(1) = NONE
            spoil(9, 0) = 0 ; spoil(8, 7) = 1 ; explains(0) = 135 ; explains(1) = NONE
            // the last wire of the first set, the first wire of the second one
            spoil(8, 7) = 0 ; spoil(14, 7) = 1 ; explains(0) = 231 ; explains(1) = NONE
            spoil(14, 7) = 0 ; spoil(15, 7) = 1 ; explains(0) = 247 ; explains(1) = NONE
            begin(16, 10, 3) = 16
            // the highest one: the parity of the last set at the last ring
            spoil(40, 15) = 1 ; explains(0) = 655 ; explains(1) = NONE
            begin(2, 1, 1) = 48
            // the highest one of the smallest rope, 16 * 9 + 1; and before it what makes the code 1 pick nothing
            spoil(9, 1) = 1 ; explains(0) = 1 ; explains(1) = 49 ; explains(2) = 81 ; explains(3) = 113
            explains(4) = 145 ; explains(5) = NONE
            """);
        holds("Faults", "A wrong weave is told by a number", """
            begin(2, 1, 2) = 16
            weave(0, 1) = 0 ; weave(1, 1) = 0
            // the lowest one: the wire 0 goes round ring 0, so the code 1 picks both rings
            spoil(0, 0) = 1 ; picked(1) = 3 ; read(2) = 1 ; read(3) = 1 ; parity(2) = 0 ; parity(3) = 0
            explains(0) = 0 ; explains(1) = NONE
            begin(16, 1, 2) = 4
            weave(30, 1) = 0 ; weave(31, 1) = 0
            // the highest one of the inhibit wires: the wire 7 goes round ring 15, so 7 picks 7 and 15
            spoil(7, 15) = 1 ; picked(7) = 32896 ; read(14) = 1 ; read(15) = 1
            explains(0) = 127 ; explains(1) = NONE
            """);
        holds("Faults", "A wrong weave that could be, at any wire and ring, whether it is there or not, explains the rope if,"
            + " were it the only one there, all B + 1 raw bits of all addresses would be what they are now.", SMALLEST, """
            // without any, what changes nothing explains it: the codes 0 and 1 have the same word
            explains(0) = 0 ; explains(1) = 17
            // and no ring has the codes that the other bits would ask for
            explains(2) = 32 ; explains(3) = 33 ; explains(4) = 64 ; explains(5) = 65 ; explains(6) = 96 ; explains(7) = 97
            explains(8) = NONE
            spoil(96, 1) = BAD_INDEX ; spoil(6, 1) = 1
            explains(0) = 0 ; explains(7) = 97 ; explains(8) = NONE   // whether it is there or not
            // with another word at ring 1, the first two do change something
            weave(1, 1) = 0
            explains(0) = 32 ; explains(5) = 97 ; explains(6) = NONE
            // with the codes 2 and 1, each bit asks for a code that no ring has, two of them for the code 0
            setCode(0, 2) = 0
            explains(0) = 0 ; explains(1) = 17 ; explains(2) = 33 ; explains(3) = 48 ; explains(4) = 64 ; explains(5) = 65
            explains(6) = 96 ; explains(7) = 97 ; explains(8) = NONE
            """);
        holds("Faults", "were it the only one there", SMALLEST, """
            spoil(8, 0) = 1 ; explains(0) = 128 ; explains(1) = NONE
            spoil(9, 0) = 1 ; explains(0) = NONE   // two at once, and no one does the same
            spoil(8, 0) = 0 ; spoil(1, 0) = 1      // two again: the code 0 picks nothing, which hides the wire 9
            explains(0) = 16 ; explains(1) = 48 ; explains(2) = 80 ; explains(3) = 112 ; explains(4) = 144
            explains(5) = NONE
            """);
        holds("Faults", "all B + 1 raw bits of all addresses", """
            begin(2, 2, 2) = 16
            weave(0, 3) = 0 ; weave(1, 1) = 0
            spoil(0, 0) = 1                        // both sets of ring 1 are read wrongly
            explains(0) = 0 ; explains(1) = NONE
            spoil(0, 0) = 0 ; spoil(11, 0) = 1     // the second set alone
            explains(0) = 176 ; explains(1) = NONE
            spoil(13, 0) = 1                       // and another bit of it, the parity
            explains(0) = NONE
            """);
        holds("Promise 18", "rank: 0 for the lowest one as a number, 1 for the next one, and so on", """
            begin(3, 2, 1) = 16
            // all words are the same, so what explains the rope is each inhibit weave where the wire ought to go through
            explains(0) = 0 ; explains(1) = 2 ; explains(2) = 17 ; explains(3) = 32 ; explains(4) = 33 ; explains(5) = 50
            explains(6) = 64 ; explains(7) = 65 ; explains(8) = 66 ; explains(9) = 96 ; explains(10) = 97 ; explains(11) = 98
            explains(12) = NONE
            """);
        holds("Promise 18", "Returns its number; NONE if there are not so many; BAD_VALUE if rank is negative.", """
            explains(31) = 103 ; explains(32) = NONE   // four at each of the 8 rings
            explains(HIGHEST) = NONE ; explains(-1) = BAD_VALUE ; explains(LOWEST) = BAD_VALUE
            spoil(8, 0) = 1 ; spoil(8, 1) = 1
            explains(0) = NONE ; explains(-1) = BAD_VALUE
            """);
        holds("Promise 18", "Returns the wrong weave that explains the rope.", """
            begin(2, 1, 1) = 16
            // crossed wires: the code that picks nothing reads ones
            cross(8) = 1 ; cross(9) = 1
            spoil(8, 0) = 1 ; read(0) = 1 ; parity(0) = 0
            explains(0) = 16 ; explains(1) = 48 ; explains(2) = 80 ; explains(3) = 112 ; explains(4) = 128
            explains(5) = NONE
            """);
    }

    public static void main(String[] args) {
        picking();
        rawBits();
        patches();
        patchAll();
        counting();
        explaining();
        Sentences.finish();
    }
}
